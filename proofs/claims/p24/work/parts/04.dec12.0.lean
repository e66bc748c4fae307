section
theorem dX12_init_0 : decode cX12_init 0 = .ok (.aload_n 0, 1) := by decide +kernel
theorem dX12_init_1 : decode cX12_init 1 = .ok (.invokespecial 1, 3) := by decide +kernel
theorem dX12_init_4 : decode cX12_init 4 = .ok (.aload_n 0, 1) := by decide +kernel
theorem dX12_init_5 : decode cX12_init 5 = .ok (.sipush 2000, 3) := by decide +kernel
theorem dX12_init_8 : decode cX12_init 8 = .ok (.newarray .char, 2) := by decide +kernel
theorem dX12_init_10 : decode cX12_init 10 = .ok (.putfield 7, 3) := by decide +kernel
theorem dX12_init_13 : decode cX12_init 13 = .ok (.aload_n 0, 1) := by decide +kernel
theorem dX12_init_14 : decode cX12_init 14 = .ok (.ldc 13, 2) := by decide +kernel
theorem dX12_init_16 : decode cX12_init 16 = .ok (.newarray .char, 2) := by decide +kernel
theorem dX12_init_18 : decode cX12_init 18 = .ok (.putfield 14, 3) := by decide +kernel
theorem dX12_init_21 : decode cX12_init 21 = .ok (.aload_n 0, 1) := by decide +kernel
theorem dX12_init_22 : decode cX12_init 22 = .ok (.iconst 2, 1) := by decide +kernel
theorem dX12_init_23 : decode cX12_init 23 = .ok (.newarray .int, 2) := by decide +kernel
theorem dX12_init_25 : decode cX12_init 25 = .ok (.putfield 17, 3) := by decide +kernel
theorem dX12_init_28 : decode cX12_init 28 = .ok (.aload_n 0, 1) := by decide +kernel
theorem dX12_init_29 : decode cX12_init 29 = .ok (.sipush 602, 3) := by decide +kernel
theorem dX12_init_32 : decode cX12_init 32 = .ok (.newarray .int, 2) := by decide +kernel
theorem dX12_init_34 : decode cX12_init 34 = .ok (.putfield 21, 3) := by decide +kernel
theorem dX12_init_37 : decode cX12_init 37 = .ok (.aload_n 0, 1) := by decide +kernel
theorem dX12_init_38 : decode cX12_init 38 = .ok (.sipush 602, 3) := by decide +kernel
theorem dX12_init_41 : decode cX12_init 41 = .ok (.newarray .int, 2) := by decide +kernel
theorem dX12_init_43 : decode cX12_init 43 = .ok (.putfield 24, 3) := by decide +kernel
theorem dX12_init_46 : decode cX12_init 46 = .ok (.aload_n 0, 1) := by decide +kernel
theorem dX12_init_47 : decode cX12_init 47 = .ok (.sipush 602, 3) := by decide +kernel
theorem dX12_init_50 : decode cX12_init 50 = .ok (.newarray .int, 2) := by decide +kernel
theorem dX12_init_52 : decode cX12_init 52 = .ok (.putfield 27, 3) := by decide +kernel
theorem dX12_init_55 : decode cX12_init 55 = .ok (.aload_n 0, 1) := by decide +kernel
theorem dX12_init_56 : decode cX12_init 56 = .ok (.sipush 602, 3) := by decide +kernel
theorem dX12_init_59 : decode cX12_init 59 = .ok (.newarray .int, 2) := by decide +kernel
theorem dX12_init_61 : decode cX12_init 61 = .ok (.putfield 30, 3) := by decide +kernel
theorem dX12_init_64 : decode cX12_init 64 = .ok (.aload_n 0, 1) := by decide +kernel
theorem dX12_init_65 : decode cX12_init 65 = .ok (.sipush 602, 3) := by decide +kernel
theorem dX12_init_68 : decode cX12_init 68 = .ok (.newarray .int, 2) := by decide +kernel
theorem dX12_init_70 : decode cX12_init 70 = .ok (.putfield 33, 3) := by decide +kernel
theorem dX12_init_73 : decode cX12_init 73 = .ok (.aload_n 0, 1) := by decide +kernel
theorem dX12_init_74 : decode cX12_init 74 = .ok (.sipush 2408, 3) := by decide +kernel
theorem dX12_init_77 : decode cX12_init 77 = .ok (.newarray .int, 2) := by decide +kernel
theorem dX12_init_79 : decode cX12_init 79 = .ok (.putfield 36, 3) := by decide +kernel
theorem dX12_init_82 : decode cX12_init 82 = .ok (.aload_n 0, 1) := by decide +kernel
theorem dX12_init_83 : decode cX12_init 83 = .ok (.sipush 602, 3) := by decide +kernel
theorem dX12_init_86 : decode cX12_init 86 = .ok (.newarray .int, 2) := by decide +kernel
theorem dX12_init_88 : decode cX12_init 88 = .ok (.putfield 39, 3) := by decide +kernel
theorem dX12_init_91 : decode cX12_init 91 = .ok (.aload_n 0, 1) := by decide +kernel
theorem dX12_init_92 : decode cX12_init 92 = .ok (.ldc 42, 2) := by decide +kernel
theorem dX12_init_94 : decode cX12_init 94 = .ok (.newarray .char, 2) := by decide +kernel
theorem dX12_init_96 : decode cX12_init 96 = .ok (.putfield 43, 3) := by decide +kernel
theorem dX12_init_99 : decode cX12_init 99 = .ok (.aload_n 0, 1) := by decide +kernel
theorem dX12_init_100 : decode cX12_init 100 = .ok (.sipush 128, 3) := by decide +kernel
theorem dX12_init_103 : decode cX12_init 103 = .ok (.newarray .int, 2) := by decide +kernel
theorem dX12_init_105 : decode cX12_init 105 = .ok (.putfield 46, 3) := by decide +kernel
theorem dX12_init_108 : decode cX12_init 108 = .ok (.aload_n 0, 1) := by decide +kernel
theorem dX12_init_109 : decode cX12_init 109 = .ok (.bipush 10, 2) := by decide +kernel
theorem dX12_init_111 : decode cX12_init 111 = .ok (.newarray .int, 2) := by decide +kernel
theorem dX12_init_113 : decode cX12_init 113 = .ok (.putfield 49, 3) := by decide +kernel
theorem dX12_init_116 : decode cX12_init 116 = .ok (.aload_n 0, 1) := by decide +kernel
theorem dX12_init_117 : decode cX12_init 117 = .ok (.iconst 2, 1) := by decide +kernel
theorem dX12_init_118 : decode cX12_init 118 = .ok (.newarray .int, 2) := by decide +kernel
theorem dX12_init_120 : decode cX12_init 120 = .ok (.putfield 52, 3) := by decide +kernel
theorem dX12_init_123 : decode cX12_init 123 = .ok (.aload_n 0, 1) := by decide +kernel
theorem dX12_init_124 : decode cX12_init 124 = .ok (.bipush 16, 2) := by decide +kernel
theorem dX12_init_126 : decode cX12_init 126 = .ok (.newarray .int, 2) := by decide +kernel
theorem dX12_init_128 : decode cX12_init 128 = .ok (.putfield 55, 3) := by decide +kernel
theorem dX12_init_131 : decode cX12_init 131 = .ok (.aload_n 0, 1) := by decide +kernel
theorem dX12_init_132 : decode cX12_init 132 = .ok (.sipush 192, 3) := by decide +kernel
theorem dX12_init_135 : decode cX12_init 135 = .ok (.newarray .char, 2) := by decide +kernel
theorem dX12_init_137 : decode cX12_init 137 = .ok (.putfield 58, 3) := by decide +kernel
theorem dX12_init_140 : decode cX12_init 140 = .ok (.aload_n 0, 1) := by decide +kernel
theorem dX12_init_141 : decode cX12_init 141 = .ok (.bipush 16, 2) := by decide +kernel
theorem dX12_init_143 : decode cX12_init 143 = .ok (.newarray .int, 2) := by decide +kernel
theorem dX12_init_145 : decode cX12_init 145 = .ok (.putfield 61, 3) := by decide +kernel
theorem dX12_init_148 : decode cX12_init 148 = .ok (.aload_n 0, 1) := by decide +kernel
theorem dX12_init_149 : decode cX12_init 149 = .ok (.sipush 1536, 3) := by decide +kernel
theorem dX12_init_152 : decode cX12_init 152 = .ok (.newarray .char, 2) := by decide +kernel
theorem dX12_init_154 : decode cX12_init 154 = .ok (.putfield 64, 3) := by decide +kernel
theorem dX12_init_157 : decode cX12_init 157 = .ok (.aload_n 0, 1) := by decide +kernel
theorem dX12_init_158 : decode cX12_init 158 = .ok (.iconst 2, 1) := by decide +kernel
theorem dX12_init_159 : decode cX12_init 159 = .ok (.newarray .int, 2) := by decide +kernel
theorem dX12_init_161 : decode cX12_init 161 = .ok (.putfield 67, 3) := by decide +kernel
theorem dX12_init_164 : decode cX12_init 164 = .ok (.aload_n 0, 1) := by decide +kernel
theorem dX12_init_165 : decode cX12_init 165 = .ok (.bipush 64, 2) := by decide +kernel
theorem dX12_init_167 : decode cX12_init 167 = .ok (.newarray .int, 2) := by decide +kernel
theorem dX12_init_169 : decode cX12_init 169 = .ok (.putfield 70, 3) := by decide +kernel
theorem dX12_init_172 : decode cX12_init 172 = .ok (.aload_n 0, 1) := by decide +kernel
theorem dX12_init_173 : decode cX12_init 173 = .ok (.bipush 64, 2) := by decide +kernel
theorem dX12_init_175 : decode cX12_init 175 = .ok (.newarray .int, 2) := by decide +kernel
theorem dX12_init_177 : decode cX12_init 177 = .ok (.putfield 73, 3) := by decide +kernel
theorem dX12_init_180 : decode cX12_init 180 = .ok (.aload_n 0, 1) := by decide +kernel
theorem dX12_init_181 : decode cX12_init 181 = .ok (.iconst 5, 1) := by decide +kernel
theorem dX12_init_182 : decode cX12_init 182 = .ok (.newarray .int, 2) := by decide +kernel
theorem dX12_init_184 : decode cX12_init 184 = .ok (.putfield 76, 3) := by decide +kernel
theorem dX12_init_187 : decode cX12_init 187 = .ok (.aload_n 0, 1) := by decide +kernel
theorem dX12_init_188 : decode cX12_init 188 = .ok (.sipush 2048, 3) := by decide +kernel
theorem dX12_init_191 : decode cX12_init 191 = .ok (.newarray .int, 2) := by decide +kernel
theorem dX12_init_193 : decode cX12_init 193 = .ok (.putfield 79, 3) := by decide +kernel
theorem dX12_init_196 : decode cX12_init 196 = .ok (.aload_n 0, 1) := by decide +kernel
theorem dX12_init_197 : decode cX12_init 197 = .ok (.sipush 301, 3) := by decide +kernel
theorem dX12_init_200 : decode cX12_init 200 = .ok (.newarray .int, 2) := by decide +kernel
theorem dX12_init_202 : decode cX12_init 202 = .ok (.putfield 82, 3) := by decide +kernel
theorem dX12_init_205 : decode cX12_init 205 = .ok (.aload_n 0, 1) := by decide +kernel
theorem dX12_init_206 : decode cX12_init 206 = .ok (.bipush 16, 2) := by decide +kernel
theorem dX12_init_208 : decode cX12_init 208 = .ok (.newarray .char, 2) := by decide +kernel
theorem dX12_init_210 : decode cX12_init 210 = .ok (.putfield 85, 3) := by decide +kernel
theorem dX12_init_213 : decode cX12_init 213 = .ok (.aload_n 0, 1) := by decide +kernel
theorem dX12_init_214 : decode cX12_init 214 = .ok (.iconst 0, 1) := by decide +kernel
theorem dX12_init_215 : decode cX12_init 215 = .ok (.invokevirtual 88, 3) := by decide +kernel
theorem dX12_init_218 : decode cX12_init 218 = .ok (.aload_n 0, 1) := by decide +kernel
theorem dX12_init_219 : decode cX12_init 219 = .ok (.iconst 0, 1) := by decide +kernel
theorem dX12_init_220 : decode cX12_init 220 = .ok (.invokevirtual 92, 3) := by decide +kernel
theorem dX12_init_223 : decode cX12_init 223 = .ok (.aload_n 0, 1) := by decide +kernel
theorem dX12_init_224 : decode cX12_init 224 = .ok (.iconst 0, 1) := by decide +kernel
theorem dX12_init_225 : decode cX12_init 225 = .ok (.iconst 0, 1) := by decide +kernel
theorem dX12_init_226 : decode cX12_init 226 = .ok (.invokevirtual 95, 3) := by decide +kernel
theorem dX12_init_229 : decode cX12_init 229 = .ok (.return_, 1) := by decide +kernel
theorem dX12_thrown_0 : decode cX12_thrown 0 = .ok (.aload_n 0, 1) := by decide +kernel
theorem dX12_thrown_1 : decode cX12_thrown 1 = .ok (.getfield 99, 3) := by decide +kernel
theorem dX12_thrown_4 : decode cX12_thrown 4 = .ok (.ireturn, 1) := by decide +kernel
theorem dX12_kind_0 : decode cX12_kind 0 = .ok (.iload_n 0, 1) := by decide +kernel
theorem dX12_kind_1 : decode cX12_kind 1 = .ok (.bipush 7, 2) := by decide +kernel
theorem dX12_kind_3 : decode cX12_kind 3 = .ok (.iand, 1) := by decide +kernel
theorem dX12_kind_4 : decode cX12_kind 4 = .ok (.ireturn, 1) := by decide +kernel
theorem dX12_sideOf_0 : decode cX12_sideOf 0 = .ok (.iload_n 0, 1) := by decide +kernel
theorem dX12_sideOf_1 : decode cX12_sideOf 1 = .ok (.ifCond .ne 7, 3) := by decide +kernel
theorem dX12_sideOf_4 : decode cX12_sideOf 4 = .ok (.iconst (-1), 1) := by decide +kernel
theorem dX12_sideOf_5 : decode cX12_sideOf 5 = .ok (.goto 6, 3) := by decide +kernel
theorem dX12_sideOf_8 : decode cX12_sideOf 8 = .ok (.iload_n 0, 1) := by decide +kernel
theorem dX12_sideOf_9 : decode cX12_sideOf 9 = .ok (.iconst 3, 1) := by decide +kernel
theorem dX12_sideOf_10 : decode cX12_sideOf 10 = .ok (.ishr, 1) := by decide +kernel
theorem dX12_sideOf_11 : decode cX12_sideOf 11 = .ok (.ireturn, 1) := by decide +kernel
theorem dX12_step_0 : decode cX12_step 0 = .ok (.iload_n 0, 1) := by decide +kernel
theorem dX12_step_1 : decode cX12_step 1 = .ok (.bipush 8, 2) := by decide +kernel
theorem dX12_step_3 : decode cX12_step 3 = .ok (.irem, 1) := by decide +kernel
theorem dX12_step_4 : decode cX12_step 4 = .ok (.iload_n 1, 1) := by decide +kernel
theorem dX12_step_5 : decode cX12_step 5 = .ok (.iadd, 1) := by decide +kernel
theorem dX12_step_6 : decode cX12_step 6 = .ok (.istore_n 3, 1) := by decide +kernel
theorem dX12_step_7 : decode cX12_step 7 = .ok (.iload_n 0, 1) := by decide +kernel
theorem dX12_step_8 : decode cX12_step 8 = .ok (.bipush 8, 2) := by decide +kernel
theorem dX12_step_10 : decode cX12_step 10 = .ok (.idiv, 1) := by decide +kernel
theorem dX12_step_11 : decode cX12_step 11 = .ok (.iload_n 2, 1) := by decide +kernel
theorem dX12_step_12 : decode cX12_step 12 = .ok (.iadd, 1) := by decide +kernel
theorem dX12_step_13 : decode cX12_step 13 = .ok (.istore 4, 2) := by decide +kernel
theorem dX12_step_15 : decode cX12_step 15 = .ok (.iload_n 3, 1) := by decide +kernel
theorem dX12_step_16 : decode cX12_step 16 = .ok (.ifCond .lt 31, 3) := by decide +kernel
theorem dX12_step_19 : decode cX12_step 19 = .ok (.iload_n 3, 1) := by decide +kernel
theorem dX12_step_20 : decode cX12_step 20 = .ok (.bipush 8, 2) := by decide +kernel
theorem dX12_step_22 : decode cX12_step 22 = .ok (.if_icmp .ge 25, 3) := by decide +kernel
theorem dX12_step_25 : decode cX12_step 25 = .ok (.iload 4, 2) := by decide +kernel
theorem dX12_step_27 : decode cX12_step 27 = .ok (.ifCond .lt 20, 3) := by decide +kernel
theorem dX12_step_30 : decode cX12_step 30 = .ok (.iload 4, 2) := by decide +kernel
theorem dX12_step_32 : decode cX12_step 32 = .ok (.bipush 8, 2) := by decide +kernel
theorem dX12_step_34 : decode cX12_step 34 = .ok (.if_icmp .ge 13, 3) := by decide +kernel
theorem dX12_step_37 : decode cX12_step 37 = .ok (.bipush 8, 2) := by decide +kernel
theorem dX12_step_39 : decode cX12_step 39 = .ok (.iload 4, 2) := by decide +kernel
theorem dX12_step_41 : decode cX12_step 41 = .ok (.imul, 1) := by decide +kernel
theorem dX12_step_42 : decode cX12_step 42 = .ok (.iload_n 3, 1) := by decide +kernel
theorem dX12_step_43 : decode cX12_step 43 = .ok (.iadd, 1) := by decide +kernel
theorem dX12_step_44 : decode cX12_step 44 = .ok (.goto 4, 3) := by decide +kernel
theorem dX12_step_47 : decode cX12_step 47 = .ok (.iconst (-1), 1) := by decide +kernel
theorem dX12_step_48 : decode cX12_step 48 = .ok (.ireturn, 1) := by decide +kernel
theorem dX12_stands_0 : decode cX12_stands 0 = .ok (.iload_n 1, 1) := by decide +kernel
theorem dX12_stands_1 : decode cX12_stands 1 = .ok (.ifCond .lt 17, 3) := by decide +kernel
theorem dX12_stands_4 : decode cX12_stands 4 = .ok (.aload_n 0, 1) := by decide +kernel
theorem dX12_stands_5 : decode cX12_stands 5 = .ok (.getfield 70, 3) := by decide +kernel
theorem dX12_stands_8 : decode cX12_stands 8 = .ok (.iload_n 1, 1) := by decide +kernel
theorem dX12_stands_9 : decode cX12_stands 9 = .ok (.iaload, 1) := by decide +kernel
theorem dX12_stands_10 : decode cX12_stands 10 = .ok (.iload_n 2, 1) := by decide +kernel
theorem dX12_stands_11 : decode cX12_stands 11 = .ok (.if_icmp .ne 7, 3) := by decide +kernel
theorem dX12_stands_14 : decode cX12_stands 14 = .ok (.iconst 1, 1) := by decide +kernel
theorem dX12_stands_15 : decode cX12_stands 15 = .ok (.goto 4, 3) := by decide +kernel
theorem dX12_stands_18 : decode cX12_stands 18 = .ok (.iconst 0, 1) := by decide +kernel
theorem dX12_stands_19 : decode cX12_stands 19 = .ok (.ireturn, 1) := by decide +kernel
theorem dX12_met_0 : decode cX12_met 0 = .ok (.iload_n 1, 1) := by decide +kernel
theorem dX12_met_1 : decode cX12_met 1 = .ok (.iload_n 2, 1) := by decide +kernel
theorem dX12_met_2 : decode cX12_met 2 = .ok (.iload_n 3, 1) := by decide +kernel
theorem dX12_met_3 : decode cX12_met 3 = .ok (.invokestatic 103, 3) := by decide +kernel
theorem dX12_met_6 : decode cX12_met 6 = .ok (.istore 4, 2) := by decide +kernel
theorem dX12_met_8 : decode cX12_met 8 = .ok (.iload 4, 2) := by decide +kernel
theorem dX12_met_10 : decode cX12_met 10 = .ok (.ifCond .lt 25, 3) := by decide +kernel
theorem dX12_met_13 : decode cX12_met 13 = .ok (.aload_n 0, 1) := by decide +kernel
theorem dX12_met_14 : decode cX12_met 14 = .ok (.getfield 70, 3) := by decide +kernel
theorem dX12_met_17 : decode cX12_met 17 = .ok (.iload 4, 2) := by decide +kernel
theorem dX12_met_19 : decode cX12_met 19 = .ok (.iaload, 1) := by decide +kernel
theorem dX12_met_20 : decode cX12_met 20 = .ok (.ifCond .ne 15, 3) := by decide +kernel
theorem dX12_met_23 : decode cX12_met 23 = .ok (.iload 4, 2) := by decide +kernel
theorem dX12_met_25 : decode cX12_met 25 = .ok (.iload_n 2, 1) := by decide +kernel
theorem dX12_met_26 : decode cX12_met 26 = .ok (.iload_n 3, 1) := by decide +kernel
theorem dX12_met_27 : decode cX12_met 27 = .ok (.invokestatic 103, 3) := by decide +kernel
theorem dX12_met_30 : decode cX12_met 30 = .ok (.istore 4, 2) := by decide +kernel
theorem dX12_met_32 : decode cX12_met 32 = .ok (.goto (-24), 3) := by decide +kernel
theorem dX12_met_35 : decode cX12_met 35 = .ok (.iload 4, 2) := by decide +kernel
theorem dX12_met_37 : decode cX12_met 37 = .ok (.ifCond .ge 7, 3) := by decide +kernel
theorem dX12_met_40 : decode cX12_met 40 = .ok (.iconst 0, 1) := by decide +kernel
theorem dX12_met_41 : decode cX12_met 41 = .ok (.goto 10, 3) := by decide +kernel
theorem dX12_met_44 : decode cX12_met 44 = .ok (.aload_n 0, 1) := by decide +kernel
theorem dX12_met_45 : decode cX12_met 45 = .ok (.getfield 70, 3) := by decide +kernel
theorem dX12_met_48 : decode cX12_met 48 = .ok (.iload 4, 2) := by decide +kernel
theorem dX12_met_50 : decode cX12_met 50 = .ok (.iaload, 1) := by decide +kernel
theorem dX12_met_51 : decode cX12_met 51 = .ok (.ireturn, 1) := by decide +kernel
theorem dX12_isAttacked_0 : decode cX12_isAttacked 0 = .ok (.bipush 8, 2) := by decide +kernel
theorem dX12_isAttacked_2 : decode cX12_isAttacked 2 = .ok (.iload_n 2, 1) := by decide +kernel
theorem dX12_isAttacked_3 : decode cX12_isAttacked 3 = .ok (.imul, 1) := by decide +kernel
theorem dX12_isAttacked_4 : decode cX12_isAttacked 4 = .ok (.istore_n 3, 1) := by decide +kernel
theorem dX12_isAttacked_5 : decode cX12_isAttacked 5 = .ok (.iload_n 2, 1) := by decide +kernel
theorem dX12_isAttacked_6 : decode cX12_isAttacked 6 = .ok (.ifCond .ne 7, 3) := by decide +kernel
theorem dX12_isAttacked_9 : decode cX12_isAttacked 9 = .ok (.iconst (-1), 1) := by decide +kernel
theorem dX12_isAttacked_10 : decode cX12_isAttacked 10 = .ok (.goto 4, 3) := by decide +kernel
theorem dX12_isAttacked_13 : decode cX12_isAttacked 13 = .ok (.iconst 1, 1) := by decide +kernel
theorem dX12_isAttacked_14 : decode cX12_isAttacked 14 = .ok (.istore 4, 2) := by decide +kernel
theorem dX12_isAttacked_16 : decode cX12_isAttacked 16 = .ok (.aload_n 0, 1) := by decide +kernel
theorem dX12_isAttacked_17 : decode cX12_isAttacked 17 = .ok (.iload_n 1, 1) := by decide +kernel
theorem dX12_isAttacked_18 : decode cX12_isAttacked 18 = .ok (.iconst (-1), 1) := by decide +kernel
theorem dX12_isAttacked_19 : decode cX12_isAttacked 19 = .ok (.iload 4, 2) := by decide +kernel
theorem dX12_isAttacked_21 : decode cX12_isAttacked 21 = .ok (.invokestatic 103, 3) := by decide +kernel
theorem dX12_isAttacked_24 : decode cX12_isAttacked 24 = .ok (.iconst 1, 1) := by decide +kernel
theorem dX12_isAttacked_25 : decode cX12_isAttacked 25 = .ok (.iload_n 3, 1) := by decide +kernel
theorem dX12_isAttacked_26 : decode cX12_isAttacked 26 = .ok (.iadd, 1) := by decide +kernel
theorem dX12_isAttacked_27 : decode cX12_isAttacked 27 = .ok (.invokevirtual 107, 3) := by decide +kernel
theorem dX12_isAttacked_30 : decode cX12_isAttacked 30 = .ok (.ifCond .ne 20, 3) := by decide +kernel
theorem dX12_isAttacked_33 : decode cX12_isAttacked 33 = .ok (.aload_n 0, 1) := by decide +kernel
theorem dX12_isAttacked_34 : decode cX12_isAttacked 34 = .ok (.iload_n 1, 1) := by decide +kernel
theorem dX12_isAttacked_35 : decode cX12_isAttacked 35 = .ok (.iconst 1, 1) := by decide +kernel
theorem dX12_isAttacked_36 : decode cX12_isAttacked 36 = .ok (.iload 4, 2) := by decide +kernel
theorem dX12_isAttacked_38 : decode cX12_isAttacked 38 = .ok (.invokestatic 103, 3) := by decide +kernel
theorem dX12_isAttacked_41 : decode cX12_isAttacked 41 = .ok (.iconst 1, 1) := by decide +kernel
theorem dX12_isAttacked_42 : decode cX12_isAttacked 42 = .ok (.iload_n 3, 1) := by decide +kernel
theorem dX12_isAttacked_43 : decode cX12_isAttacked 43 = .ok (.iadd, 1) := by decide +kernel
theorem dX12_isAttacked_44 : decode cX12_isAttacked 44 = .ok (.invokevirtual 107, 3) := by decide +kernel
theorem dX12_isAttacked_47 : decode cX12_isAttacked 47 = .ok (.ifCond .eq 7, 3) := by decide +kernel
theorem dX12_isAttacked_50 : decode cX12_isAttacked 50 = .ok (.iconst 1, 1) := by decide +kernel
theorem dX12_isAttacked_51 : decode cX12_isAttacked 51 = .ok (.goto 4, 3) := by decide +kernel
theorem dX12_isAttacked_54 : decode cX12_isAttacked 54 = .ok (.iconst 0, 1) := by decide +kernel
theorem dX12_isAttacked_55 : decode cX12_isAttacked 55 = .ok (.istore 5, 2) := by decide +kernel
theorem dX12_isAttacked_57 : decode cX12_isAttacked 57 = .ok (.bipush (-2), 2) := by decide +kernel
theorem dX12_isAttacked_59 : decode cX12_isAttacked 59 = .ok (.istore 6, 2) := by decide +kernel
theorem dX12_isAttacked_61 : decode cX12_isAttacked 61 = .ok (.iload 6, 2) := by decide +kernel
theorem dX12_isAttacked_63 : decode cX12_isAttacked 63 = .ok (.iconst 3, 1) := by decide +kernel
theorem dX12_isAttacked_64 : decode cX12_isAttacked 64 = .ok (.if_icmp .ge 165, 3) := by decide +kernel
theorem dX12_isAttacked_67 : decode cX12_isAttacked 67 = .ok (.bipush (-2), 2) := by decide +kernel
theorem dX12_isAttacked_69 : decode cX12_isAttacked 69 = .ok (.istore 7, 2) := by decide +kernel
theorem dX12_isAttacked_71 : decode cX12_isAttacked 71 = .ok (.iload 7, 2) := by decide +kernel
theorem dX12_isAttacked_73 : decode cX12_isAttacked 73 = .ok (.iconst 3, 1) := by decide +kernel
theorem dX12_isAttacked_74 : decode cX12_isAttacked 74 = .ok (.if_icmp .ge 149, 3) := by decide +kernel
theorem dX12_isAttacked_77 : decode cX12_isAttacked 77 = .ok (.iload 6, 2) := by decide +kernel
theorem dX12_isAttacked_79 : decode cX12_isAttacked 79 = .ok (.iload 6, 2) := by decide +kernel
theorem dX12_isAttacked_81 : decode cX12_isAttacked 81 = .ok (.imul, 1) := by decide +kernel
theorem dX12_isAttacked_82 : decode cX12_isAttacked 82 = .ok (.iload 7, 2) := by decide +kernel
theorem dX12_isAttacked_84 : decode cX12_isAttacked 84 = .ok (.iload 7, 2) := by decide +kernel
theorem dX12_isAttacked_86 : decode cX12_isAttacked 86 = .ok (.imul, 1) := by decide +kernel
theorem dX12_isAttacked_87 : decode cX12_isAttacked 87 = .ok (.iadd, 1) := by decide +kernel
theorem dX12_isAttacked_88 : decode cX12_isAttacked 88 = .ok (.istore 8, 2) := by decide +kernel
theorem dX12_isAttacked_90 : decode cX12_isAttacked 90 = .ok (.iload 5, 2) := by decide +kernel
theorem dX12_isAttacked_92 : decode cX12_isAttacked 92 = .ok (.ifCond .ne 57, 3) := by decide +kernel
theorem dX12_isAttacked_95 : decode cX12_isAttacked 95 = .ok (.iload 8, 2) := by decide +kernel
theorem dX12_isAttacked_97 : decode cX12_isAttacked 97 = .ok (.iconst 5, 1) := by decide +kernel
theorem dX12_isAttacked_98 : decode cX12_isAttacked 98 = .ok (.if_icmp .ne 21, 3) := by decide +kernel
theorem dX12_isAttacked_101 : decode cX12_isAttacked 101 = .ok (.aload_n 0, 1) := by decide +kernel
theorem dX12_isAttacked_102 : decode cX12_isAttacked 102 = .ok (.iload_n 1, 1) := by decide +kernel
theorem dX12_isAttacked_103 : decode cX12_isAttacked 103 = .ok (.iload 6, 2) := by decide +kernel
theorem dX12_isAttacked_105 : decode cX12_isAttacked 105 = .ok (.iload 7, 2) := by decide +kernel
theorem dX12_isAttacked_107 : decode cX12_isAttacked 107 = .ok (.invokestatic 103, 3) := by decide +kernel
theorem dX12_isAttacked_110 : decode cX12_isAttacked 110 = .ok (.iconst 2, 1) := by decide +kernel
theorem dX12_isAttacked_111 : decode cX12_isAttacked 111 = .ok (.iload_n 3, 1) := by decide +kernel
theorem dX12_isAttacked_112 : decode cX12_isAttacked 112 = .ok (.iadd, 1) := by decide +kernel
theorem dX12_isAttacked_113 : decode cX12_isAttacked 113 = .ok (.invokevirtual 107, 3) := by decide +kernel
theorem dX12_isAttacked_116 : decode cX12_isAttacked 116 = .ok (.ifCond .ne 33, 3) := by decide +kernel
theorem dX12_isAttacked_119 : decode cX12_isAttacked 119 = .ok (.iload 8, 2) := by decide +kernel
theorem dX12_isAttacked_121 : decode cX12_isAttacked 121 = .ok (.ifCond .le 32, 3) := by decide +kernel
theorem dX12_isAttacked_124 : decode cX12_isAttacked 124 = .ok (.iload 8, 2) := by decide +kernel
theorem dX12_isAttacked_126 : decode cX12_isAttacked 126 = .ok (.iconst 3, 1) := by decide +kernel
theorem dX12_isAttacked_127 : decode cX12_isAttacked 127 = .ok (.if_icmp .ge 26, 3) := by decide +kernel
theorem dX12_isAttacked_130 : decode cX12_isAttacked 130 = .ok (.aload_n 0, 1) := by decide +kernel
theorem dX12_isAttacked_131 : decode cX12_isAttacked 131 = .ok (.iload_n 1, 1) := by decide +kernel
theorem dX12_isAttacked_132 : decode cX12_isAttacked 132 = .ok (.iload 6, 2) := by decide +kernel
theorem dX12_isAttacked_134 : decode cX12_isAttacked 134 = .ok (.iload 7, 2) := by decide +kernel
theorem dX12_isAttacked_136 : decode cX12_isAttacked 136 = .ok (.invokestatic 103, 3) := by decide +kernel
theorem dX12_isAttacked_139 : decode cX12_isAttacked 139 = .ok (.bipush 6, 2) := by decide +kernel
theorem dX12_isAttacked_141 : decode cX12_isAttacked 141 = .ok (.iload_n 3, 1) := by decide +kernel
theorem dX12_isAttacked_142 : decode cX12_isAttacked 142 = .ok (.iadd, 1) := by decide +kernel
theorem dX12_isAttacked_143 : decode cX12_isAttacked 143 = .ok (.invokevirtual 107, 3) := by decide +kernel
theorem dX12_isAttacked_146 : decode cX12_isAttacked 146 = .ok (.ifCond .eq 7, 3) := by decide +kernel
theorem dX12_isAttacked_149 : decode cX12_isAttacked 149 = .ok (.iconst 1, 1) := by decide +kernel
theorem dX12_isAttacked_150 : decode cX12_isAttacked 150 = .ok (.goto 4, 3) := by decide +kernel
theorem dX12_isAttacked_153 : decode cX12_isAttacked 153 = .ok (.iconst 0, 1) := by decide +kernel
theorem dX12_isAttacked_154 : decode cX12_isAttacked 154 = .ok (.istore 5, 2) := by decide +kernel
theorem dX12_isAttacked_156 : decode cX12_isAttacked 156 = .ok (.iload 8, 2) := by decide +kernel
theorem dX12_isAttacked_158 : decode cX12_isAttacked 158 = .ok (.iconst 1, 1) := by decide +kernel
theorem dX12_isAttacked_159 : decode cX12_isAttacked 159 = .ok (.if_icmp .eq 9, 3) := by decide +kernel
theorem dX12_isAttacked_162 : decode cX12_isAttacked 162 = .ok (.iload 8, 2) := by decide +kernel
theorem dX12_isAttacked_164 : decode cX12_isAttacked 164 = .ok (.iconst 2, 1) := by decide +kernel
theorem dX12_isAttacked_165 : decode cX12_isAttacked 165 = .ok (.if_icmp .ne 52, 3) := by decide +kernel
theorem dX12_isAttacked_168 : decode cX12_isAttacked 168 = .ok (.aload_n 0, 1) := by decide +kernel
theorem dX12_isAttacked_169 : decode cX12_isAttacked 169 = .ok (.iload_n 1, 1) := by decide +kernel
theorem dX12_isAttacked_170 : decode cX12_isAttacked 170 = .ok (.iload 6, 2) := by decide +kernel
theorem dX12_isAttacked_172 : decode cX12_isAttacked 172 = .ok (.iload 7, 2) := by decide +kernel
theorem dX12_isAttacked_174 : decode cX12_isAttacked 174 = .ok (.invokevirtual 111, 3) := by decide +kernel
theorem dX12_isAttacked_177 : decode cX12_isAttacked 177 = .ok (.istore 9, 2) := by decide +kernel
theorem dX12_isAttacked_179 : decode cX12_isAttacked 179 = .ok (.iload 5, 2) := by decide +kernel
theorem dX12_isAttacked_181 : decode cX12_isAttacked 181 = .ok (.ifCond .ne 29, 3) := by decide +kernel
theorem dX12_isAttacked_184 : decode cX12_isAttacked 184 = .ok (.iload 9, 2) := by decide +kernel
theorem dX12_isAttacked_186 : decode cX12_isAttacked 186 = .ok (.iconst 5, 1) := by decide +kernel
theorem dX12_isAttacked_187 : decode cX12_isAttacked 187 = .ok (.iload_n 3, 1) := by decide +kernel
theorem dX12_isAttacked_188 : decode cX12_isAttacked 188 = .ok (.iadd, 1) := by decide +kernel
theorem dX12_isAttacked_189 : decode cX12_isAttacked 189 = .ok (.if_icmp .eq 21, 3) := by decide +kernel
theorem dX12_isAttacked_192 : decode cX12_isAttacked 192 = .ok (.iload 9, 2) := by decide +kernel
theorem dX12_isAttacked_194 : decode cX12_isAttacked 194 = .ok (.iload 8, 2) := by decide +kernel
theorem dX12_isAttacked_196 : decode cX12_isAttacked 196 = .ok (.iconst 1, 1) := by decide +kernel
theorem dX12_isAttacked_197 : decode cX12_isAttacked 197 = .ok (.if_icmp .ne 7, 3) := by decide +kernel
theorem dX12_isAttacked_200 : decode cX12_isAttacked 200 = .ok (.iconst 4, 1) := by decide +kernel
theorem dX12_isAttacked_201 : decode cX12_isAttacked 201 = .ok (.goto 4, 3) := by decide +kernel
theorem dX12_isAttacked_204 : decode cX12_isAttacked 204 = .ok (.iconst 3, 1) := by decide +kernel
theorem dX12_isAttacked_205 : decode cX12_isAttacked 205 = .ok (.iload_n 3, 1) := by decide +kernel
theorem dX12_isAttacked_206 : decode cX12_isAttacked 206 = .ok (.iadd, 1) := by decide +kernel
theorem dX12_isAttacked_207 : decode cX12_isAttacked 207 = .ok (.if_icmp .ne 7, 3) := by decide +kernel
theorem dX12_isAttacked_210 : decode cX12_isAttacked 210 = .ok (.iconst 1, 1) := by decide +kernel
theorem dX12_isAttacked_211 : decode cX12_isAttacked 211 = .ok (.goto 4, 3) := by decide +kernel
theorem dX12_isAttacked_214 : decode cX12_isAttacked 214 = .ok (.iconst 0, 1) := by decide +kernel
theorem dX12_isAttacked_215 : decode cX12_isAttacked 215 = .ok (.istore 5, 2) := by decide +kernel
theorem dX12_isAttacked_217 : decode cX12_isAttacked 217 = .ok (.iinc 7 1, 3) := by decide +kernel
theorem dX12_isAttacked_220 : decode cX12_isAttacked 220 = .ok (.goto (-149), 3) := by decide +kernel
theorem dX12_isAttacked_223 : decode cX12_isAttacked 223 = .ok (.iinc 6 1, 3) := by decide +kernel
theorem dX12_isAttacked_226 : decode cX12_isAttacked 226 = .ok (.goto (-165), 3) := by decide +kernel
theorem dX12_isAttacked_229 : decode cX12_isAttacked 229 = .ok (.iload 5, 2) := by decide +kernel
theorem dX12_isAttacked_231 : decode cX12_isAttacked 231 = .ok (.ireturn, 1) := by decide +kernel
theorem dX12_kingOf_0 : decode cX12_kingOf 0 = .ok (.iconst 0, 1) := by decide +kernel
theorem dX12_kingOf_1 : decode cX12_kingOf 1 = .ok (.istore_n 2, 1) := by decide +kernel
theorem dX12_kingOf_2 : decode cX12_kingOf 2 = .ok (.iconst 0, 1) := by decide +kernel
theorem dX12_kingOf_3 : decode cX12_kingOf 3 = .ok (.istore_n 3, 1) := by decide +kernel
theorem dX12_kingOf_4 : decode cX12_kingOf 4 = .ok (.iload_n 3, 1) := by decide +kernel
theorem dX12_kingOf_5 : decode cX12_kingOf 5 = .ok (.bipush 64, 2) := by decide +kernel
theorem dX12_kingOf_7 : decode cX12_kingOf 7 = .ok (.if_icmp .ge 31, 3) := by decide +kernel
theorem dX12_kingOf_10 : decode cX12_kingOf 10 = .ok (.aload_n 0, 1) := by decide +kernel
theorem dX12_kingOf_11 : decode cX12_kingOf 11 = .ok (.getfield 70, 3) := by decide +kernel
theorem dX12_kingOf_14 : decode cX12_kingOf 14 = .ok (.iload_n 3, 1) := by decide +kernel
theorem dX12_kingOf_15 : decode cX12_kingOf 15 = .ok (.iaload, 1) := by decide +kernel
theorem dX12_kingOf_16 : decode cX12_kingOf 16 = .ok (.bipush 6, 2) := by decide +kernel
theorem dX12_kingOf_18 : decode cX12_kingOf 18 = .ok (.bipush 8, 2) := by decide +kernel
theorem dX12_kingOf_20 : decode cX12_kingOf 20 = .ok (.iload_n 1, 1) := by decide +kernel
theorem dX12_kingOf_21 : decode cX12_kingOf 21 = .ok (.imul, 1) := by decide +kernel
theorem dX12_kingOf_22 : decode cX12_kingOf 22 = .ok (.iadd, 1) := by decide +kernel
theorem dX12_kingOf_23 : decode cX12_kingOf 23 = .ok (.if_icmp .ne 7, 3) := by decide +kernel
theorem dX12_kingOf_26 : decode cX12_kingOf 26 = .ok (.iload_n 3, 1) := by decide +kernel
theorem dX12_kingOf_27 : decode cX12_kingOf 27 = .ok (.goto 4, 3) := by decide +kernel
theorem dX12_kingOf_30 : decode cX12_kingOf 30 = .ok (.iload_n 2, 1) := by decide +kernel
theorem dX12_kingOf_31 : decode cX12_kingOf 31 = .ok (.istore_n 2, 1) := by decide +kernel
theorem dX12_kingOf_32 : decode cX12_kingOf 32 = .ok (.iinc 3 1, 3) := by decide +kernel
theorem dX12_kingOf_35 : decode cX12_kingOf 35 = .ok (.goto (-31), 3) := by decide +kernel
theorem dX12_kingOf_38 : decode cX12_kingOf 38 = .ok (.iload_n 2, 1) := by decide +kernel
theorem dX12_kingOf_39 : decode cX12_kingOf 39 = .ok (.ireturn, 1) := by decide +kernel
theorem dX12_isInCheck_0 : decode cX12_isInCheck 0 = .ok (.aload_n 0, 1) := by decide +kernel
theorem dX12_isInCheck_1 : decode cX12_isInCheck 1 = .ok (.aload_n 0, 1) := by decide +kernel
theorem dX12_isInCheck_2 : decode cX12_isInCheck 2 = .ok (.iload_n 1, 1) := by decide +kernel
theorem dX12_isInCheck_3 : decode cX12_isInCheck 3 = .ok (.invokevirtual 114, 3) := by decide +kernel
theorem dX12_isInCheck_6 : decode cX12_isInCheck 6 = .ok (.iconst 1, 1) := by decide +kernel
theorem dX12_isInCheck_7 : decode cX12_isInCheck 7 = .ok (.iload_n 1, 1) := by decide +kernel
theorem dX12_isInCheck_8 : decode cX12_isInCheck 8 = .ok (.isub, 1) := by decide +kernel
theorem dX12_isInCheck_9 : decode cX12_isInCheck 9 = .ok (.invokevirtual 118, 3) := by decide +kernel
theorem dX12_isInCheck_12 : decode cX12_isInCheck 12 = .ok (.ireturn, 1) := by decide +kernel
theorem dX12_keep_0 : decode cX12_keep 0 = .ok (.iconst 0, 1) := by decide +kernel
theorem dX12_keep_1 : decode cX12_keep 1 = .ok (.istore_n 1, 1) := by decide +kernel
theorem dX12_keep_2 : decode cX12_keep 2 = .ok (.iload_n 1, 1) := by decide +kernel
theorem dX12_keep_3 : decode cX12_keep 3 = .ok (.bipush 64, 2) := by decide +kernel
theorem dX12_keep_5 : decode cX12_keep 5 = .ok (.if_icmp .ge 21, 3) := by decide +kernel
theorem dX12_keep_8 : decode cX12_keep 8 = .ok (.aload_n 0, 1) := by decide +kernel
theorem dX12_keep_9 : decode cX12_keep 9 = .ok (.getfield 73, 3) := by decide +kernel
theorem dX12_keep_12 : decode cX12_keep 12 = .ok (.iload_n 1, 1) := by decide +kernel
theorem dX12_keep_13 : decode cX12_keep 13 = .ok (.aload_n 0, 1) := by decide +kernel
theorem dX12_keep_14 : decode cX12_keep 14 = .ok (.getfield 70, 3) := by decide +kernel
theorem dX12_keep_17 : decode cX12_keep 17 = .ok (.iload_n 1, 1) := by decide +kernel
theorem dX12_keep_18 : decode cX12_keep 18 = .ok (.iaload, 1) := by decide +kernel
theorem dX12_keep_19 : decode cX12_keep 19 = .ok (.iastore, 1) := by decide +kernel
theorem dX12_keep_20 : decode cX12_keep 20 = .ok (.iinc 1 1, 3) := by decide +kernel
theorem dX12_keep_23 : decode cX12_keep 23 = .ok (.goto (-21), 3) := by decide +kernel
theorem dX12_keep_26 : decode cX12_keep 26 = .ok (.aload_n 0, 1) := by decide +kernel
theorem dX12_keep_27 : decode cX12_keep 27 = .ok (.getfield 76, 3) := by decide +kernel
theorem dX12_keep_30 : decode cX12_keep 30 = .ok (.iconst 0, 1) := by decide +kernel
theorem dX12_keep_31 : decode cX12_keep 31 = .ok (.aload_n 0, 1) := by decide +kernel
theorem dX12_keep_32 : decode cX12_keep 32 = .ok (.getfield 121, 3) := by decide +kernel
theorem dX12_keep_35 : decode cX12_keep 35 = .ok (.iastore, 1) := by decide +kernel
theorem dX12_keep_36 : decode cX12_keep 36 = .ok (.aload_n 0, 1) := by decide +kernel
theorem dX12_keep_37 : decode cX12_keep 37 = .ok (.getfield 76, 3) := by decide +kernel
theorem dX12_keep_40 : decode cX12_keep 40 = .ok (.iconst 1, 1) := by decide +kernel
theorem dX12_keep_41 : decode cX12_keep 41 = .ok (.aload_n 0, 1) := by decide +kernel
theorem dX12_keep_42 : decode cX12_keep 42 = .ok (.getfield 124, 3) := by decide +kernel
theorem dX12_keep_45 : decode cX12_keep 45 = .ok (.iastore, 1) := by decide +kernel
theorem dX12_keep_46 : decode cX12_keep 46 = .ok (.aload_n 0, 1) := by decide +kernel
theorem dX12_keep_47 : decode cX12_keep 47 = .ok (.getfield 76, 3) := by decide +kernel
theorem dX12_keep_50 : decode cX12_keep 50 = .ok (.iconst 2, 1) := by decide +kernel
theorem dX12_keep_51 : decode cX12_keep 51 = .ok (.aload_n 0, 1) := by decide +kernel
theorem dX12_keep_52 : decode cX12_keep 52 = .ok (.getfield 127, 3) := by decide +kernel
theorem dX12_keep_55 : decode cX12_keep 55 = .ok (.iastore, 1) := by decide +kernel
theorem dX12_keep_56 : decode cX12_keep 56 = .ok (.aload_n 0, 1) := by decide +kernel
theorem dX12_keep_57 : decode cX12_keep 57 = .ok (.getfield 76, 3) := by decide +kernel
theorem dX12_keep_60 : decode cX12_keep 60 = .ok (.iconst 3, 1) := by decide +kernel
theorem dX12_keep_61 : decode cX12_keep 61 = .ok (.aload_n 0, 1) := by decide +kernel
theorem dX12_keep_62 : decode cX12_keep 62 = .ok (.getfield 130, 3) := by decide +kernel
theorem dX12_keep_65 : decode cX12_keep 65 = .ok (.iastore, 1) := by decide +kernel
theorem dX12_keep_66 : decode cX12_keep 66 = .ok (.aload_n 0, 1) := by decide +kernel
theorem dX12_keep_67 : decode cX12_keep 67 = .ok (.getfield 76, 3) := by decide +kernel
theorem dX12_keep_70 : decode cX12_keep 70 = .ok (.iconst 4, 1) := by decide +kernel
theorem dX12_keep_71 : decode cX12_keep 71 = .ok (.aload_n 0, 1) := by decide +kernel
theorem dX12_keep_72 : decode cX12_keep 72 = .ok (.getfield 133, 3) := by decide +kernel
theorem dX12_keep_75 : decode cX12_keep 75 = .ok (.iastore, 1) := by decide +kernel
theorem dX12_keep_76 : decode cX12_keep 76 = .ok (.return_, 1) := by decide +kernel
theorem dX12_bringBack_0 : decode cX12_bringBack 0 = .ok (.iconst 0, 1) := by decide +kernel
theorem dX12_bringBack_1 : decode cX12_bringBack 1 = .ok (.istore_n 1, 1) := by decide +kernel
theorem dX12_bringBack_2 : decode cX12_bringBack 2 = .ok (.iload_n 1, 1) := by decide +kernel
theorem dX12_bringBack_3 : decode cX12_bringBack 3 = .ok (.bipush 64, 2) := by decide +kernel
theorem dX12_bringBack_5 : decode cX12_bringBack 5 = .ok (.if_icmp .ge 21, 3) := by decide +kernel
theorem dX12_bringBack_8 : decode cX12_bringBack 8 = .ok (.aload_n 0, 1) := by decide +kernel
theorem dX12_bringBack_9 : decode cX12_bringBack 9 = .ok (.getfield 70, 3) := by decide +kernel
theorem dX12_bringBack_12 : decode cX12_bringBack 12 = .ok (.iload_n 1, 1) := by decide +kernel
theorem dX12_bringBack_13 : decode cX12_bringBack 13 = .ok (.aload_n 0, 1) := by decide +kernel
theorem dX12_bringBack_14 : decode cX12_bringBack 14 = .ok (.getfield 73, 3) := by decide +kernel
theorem dX12_bringBack_17 : decode cX12_bringBack 17 = .ok (.iload_n 1, 1) := by decide +kernel
theorem dX12_bringBack_18 : decode cX12_bringBack 18 = .ok (.iaload, 1) := by decide +kernel
theorem dX12_bringBack_19 : decode cX12_bringBack 19 = .ok (.iastore, 1) := by decide +kernel
theorem dX12_bringBack_20 : decode cX12_bringBack 20 = .ok (.iinc 1 1, 3) := by decide +kernel
theorem dX12_bringBack_23 : decode cX12_bringBack 23 = .ok (.goto (-21), 3) := by decide +kernel
theorem dX12_bringBack_26 : decode cX12_bringBack 26 = .ok (.aload_n 0, 1) := by decide +kernel
theorem dX12_bringBack_27 : decode cX12_bringBack 27 = .ok (.aload_n 0, 1) := by decide +kernel
theorem dX12_bringBack_28 : decode cX12_bringBack 28 = .ok (.getfield 76, 3) := by decide +kernel
theorem dX12_bringBack_31 : decode cX12_bringBack 31 = .ok (.iconst 0, 1) := by decide +kernel
theorem dX12_bringBack_32 : decode cX12_bringBack 32 = .ok (.iaload, 1) := by decide +kernel
theorem dX12_bringBack_33 : decode cX12_bringBack 33 = .ok (.putfield 121, 3) := by decide +kernel
theorem dX12_bringBack_36 : decode cX12_bringBack 36 = .ok (.aload_n 0, 1) := by decide +kernel
theorem dX12_bringBack_37 : decode cX12_bringBack 37 = .ok (.aload_n 0, 1) := by decide +kernel
theorem dX12_bringBack_38 : decode cX12_bringBack 38 = .ok (.getfield 76, 3) := by decide +kernel
theorem dX12_bringBack_41 : decode cX12_bringBack 41 = .ok (.iconst 1, 1) := by decide +kernel
theorem dX12_bringBack_42 : decode cX12_bringBack 42 = .ok (.iaload, 1) := by decide +kernel
theorem dX12_bringBack_43 : decode cX12_bringBack 43 = .ok (.putfield 124, 3) := by decide +kernel
theorem dX12_bringBack_46 : decode cX12_bringBack 46 = .ok (.aload_n 0, 1) := by decide +kernel
theorem dX12_bringBack_47 : decode cX12_bringBack 47 = .ok (.aload_n 0, 1) := by decide +kernel
theorem dX12_bringBack_48 : decode cX12_bringBack 48 = .ok (.getfield 76, 3) := by decide +kernel
theorem dX12_bringBack_51 : decode cX12_bringBack 51 = .ok (.iconst 2, 1) := by decide +kernel
theorem dX12_bringBack_52 : decode cX12_bringBack 52 = .ok (.iaload, 1) := by decide +kernel
theorem dX12_bringBack_53 : decode cX12_bringBack 53 = .ok (.putfield 127, 3) := by decide +kernel
theorem dX12_bringBack_56 : decode cX12_bringBack 56 = .ok (.aload_n 0, 1) := by decide +kernel
theorem dX12_bringBack_57 : decode cX12_bringBack 57 = .ok (.aload_n 0, 1) := by decide +kernel
theorem dX12_bringBack_58 : decode cX12_bringBack 58 = .ok (.getfield 76, 3) := by decide +kernel
theorem dX12_bringBack_61 : decode cX12_bringBack 61 = .ok (.iconst 3, 1) := by decide +kernel
theorem dX12_bringBack_62 : decode cX12_bringBack 62 = .ok (.iaload, 1) := by decide +kernel
theorem dX12_bringBack_63 : decode cX12_bringBack 63 = .ok (.putfield 130, 3) := by decide +kernel
theorem dX12_bringBack_66 : decode cX12_bringBack 66 = .ok (.aload_n 0, 1) := by decide +kernel
theorem dX12_bringBack_67 : decode cX12_bringBack 67 = .ok (.aload_n 0, 1) := by decide +kernel
theorem dX12_bringBack_68 : decode cX12_bringBack 68 = .ok (.getfield 76, 3) := by decide +kernel
theorem dX12_bringBack_71 : decode cX12_bringBack 71 = .ok (.iconst 4, 1) := by decide +kernel
theorem dX12_bringBack_72 : decode cX12_bringBack 72 = .ok (.iaload, 1) := by decide +kernel
theorem dX12_bringBack_73 : decode cX12_bringBack 73 = .ok (.putfield 133, 3) := by decide +kernel
theorem dX12_bringBack_76 : decode cX12_bringBack 76 = .ok (.return_, 1) := by decide +kernel
theorem dX12_lose_0 : decode cX12_lose 0 = .ok (.iload_n 1, 1) := by decide +kernel
theorem dX12_lose_1 : decode cX12_lose 1 = .ok (.iconst 4, 1) := by decide +kernel
theorem dX12_lose_2 : decode cX12_lose 2 = .ok (.if_icmp .ne 7, 3) := by decide +kernel
theorem dX12_lose_5 : decode cX12_lose 5 = .ok (.iconst 3, 1) := by decide +kernel
theorem dX12_lose_6 : decode cX12_lose 6 = .ok (.goto 54, 3) := by decide +kernel
theorem dX12_lose_9 : decode cX12_lose 9 = .ok (.iload_n 1, 1) := by decide +kernel
theorem dX12_lose_10 : decode cX12_lose 10 = .ok (.bipush 7, 2) := by decide +kernel
theorem dX12_lose_12 : decode cX12_lose 12 = .ok (.if_icmp .ne 7, 3) := by decide +kernel
theorem dX12_lose_15 : decode cX12_lose 15 = .ok (.iconst 1, 1) := by decide +kernel
theorem dX12_lose_16 : decode cX12_lose 16 = .ok (.goto 44, 3) := by decide +kernel
theorem dX12_lose_19 : decode cX12_lose 19 = .ok (.iload_n 1, 1) := by decide +kernel
theorem dX12_lose_20 : decode cX12_lose 20 = .ok (.ifCond .ne 7, 3) := by decide +kernel
theorem dX12_lose_23 : decode cX12_lose 23 = .ok (.iconst 2, 1) := by decide +kernel
theorem dX12_lose_24 : decode cX12_lose 24 = .ok (.goto 36, 3) := by decide +kernel
theorem dX12_lose_27 : decode cX12_lose 27 = .ok (.iload_n 1, 1) := by decide +kernel
theorem dX12_lose_28 : decode cX12_lose 28 = .ok (.bipush 60, 2) := by decide +kernel
theorem dX12_lose_30 : decode cX12_lose 30 = .ok (.if_icmp .ne 8, 3) := by decide +kernel
theorem dX12_lose_33 : decode cX12_lose 33 = .ok (.bipush 12, 2) := by decide +kernel
theorem dX12_lose_35 : decode cX12_lose 35 = .ok (.goto 25, 3) := by decide +kernel
theorem dX12_lose_38 : decode cX12_lose 38 = .ok (.iload_n 1, 1) := by decide +kernel
theorem dX12_lose_39 : decode cX12_lose 39 = .ok (.bipush 63, 2) := by decide +kernel
theorem dX12_lose_41 : decode cX12_lose 41 = .ok (.if_icmp .ne 7, 3) := by decide +kernel
theorem dX12_lose_44 : decode cX12_lose 44 = .ok (.iconst 4, 1) := by decide +kernel
theorem dX12_lose_45 : decode cX12_lose 45 = .ok (.goto 15, 3) := by decide +kernel
theorem dX12_lose_48 : decode cX12_lose 48 = .ok (.iload_n 1, 1) := by decide +kernel
theorem dX12_lose_49 : decode cX12_lose 49 = .ok (.bipush 56, 2) := by decide +kernel
theorem dX12_lose_51 : decode cX12_lose 51 = .ok (.if_icmp .ne 8, 3) := by decide +kernel
theorem dX12_lose_54 : decode cX12_lose 54 = .ok (.bipush 8, 2) := by decide +kernel
theorem dX12_lose_56 : decode cX12_lose 56 = .ok (.goto 4, 3) := by decide +kernel
theorem dX12_lose_59 : decode cX12_lose 59 = .ok (.iconst 0, 1) := by decide +kernel
theorem dX12_lose_60 : decode cX12_lose 60 = .ok (.istore_n 2, 1) := by decide +kernel
theorem dX12_lose_61 : decode cX12_lose 61 = .ok (.aload_n 0, 1) := by decide +kernel
theorem dX12_lose_62 : decode cX12_lose 62 = .ok (.aload_n 0, 1) := by decide +kernel
theorem dX12_lose_63 : decode cX12_lose 63 = .ok (.getfield 124, 3) := by decide +kernel
theorem dX12_lose_66 : decode cX12_lose 66 = .ok (.iload_n 2, 1) := by decide +kernel
theorem dX12_lose_67 : decode cX12_lose 67 = .ok (.iconst (-1), 1) := by decide +kernel
theorem dX12_lose_68 : decode cX12_lose 68 = .ok (.ixor, 1) := by decide +kernel
theorem dX12_lose_69 : decode cX12_lose 69 = .ok (.iand, 1) := by decide +kernel
theorem dX12_lose_70 : decode cX12_lose 70 = .ok (.putfield 124, 3) := by decide +kernel
theorem dX12_lose_73 : decode cX12_lose 73 = .ok (.return_, 1) := by decide +kernel
theorem dX12_isTaking_0 : decode cX12_isTaking 0 = .ok (.iload_n 1, 1) := by decide +kernel
theorem dX12_isTaking_1 : decode cX12_isTaking 1 = .ok (.bipush 64, 2) := by decide +kernel
theorem dX12_isTaking_3 : decode cX12_isTaking 3 = .ok (.irem, 1) := by decide +kernel
theorem dX12_isTaking_4 : decode cX12_isTaking 4 = .ok (.istore_n 2, 1) := by decide +kernel
theorem dX12_isTaking_5 : decode cX12_isTaking 5 = .ok (.iload_n 1, 1) := by decide +kernel
theorem dX12_isTaking_6 : decode cX12_isTaking 6 = .ok (.bipush 64, 2) := by decide +kernel
theorem dX12_isTaking_8 : decode cX12_isTaking 8 = .ok (.idiv, 1) := by decide +kernel
theorem dX12_isTaking_9 : decode cX12_isTaking 9 = .ok (.bipush 64, 2) := by decide +kernel
theorem dX12_isTaking_11 : decode cX12_isTaking 11 = .ok (.irem, 1) := by decide +kernel
theorem dX12_isTaking_12 : decode cX12_isTaking 12 = .ok (.istore_n 3, 1) := by decide +kernel
theorem dX12_isTaking_13 : decode cX12_isTaking 13 = .ok (.aload_n 0, 1) := by decide +kernel
theorem dX12_isTaking_14 : decode cX12_isTaking 14 = .ok (.getfield 70, 3) := by decide +kernel
theorem dX12_isTaking_17 : decode cX12_isTaking 17 = .ok (.iload_n 3, 1) := by decide +kernel
theorem dX12_isTaking_18 : decode cX12_isTaking 18 = .ok (.iaload, 1) := by decide +kernel
theorem dX12_isTaking_19 : decode cX12_isTaking 19 = .ok (.ifCond .ne 27, 3) := by decide +kernel
theorem dX12_isTaking_22 : decode cX12_isTaking 22 = .ok (.aload_n 0, 1) := by decide +kernel
theorem dX12_isTaking_23 : decode cX12_isTaking 23 = .ok (.getfield 70, 3) := by decide +kernel
theorem dX12_isTaking_26 : decode cX12_isTaking 26 = .ok (.iload_n 2, 1) := by decide +kernel
theorem dX12_isTaking_27 : decode cX12_isTaking 27 = .ok (.iaload, 1) := by decide +kernel
theorem dX12_isTaking_28 : decode cX12_isTaking 28 = .ok (.invokestatic 136, 3) := by decide +kernel
theorem dX12_isTaking_31 : decode cX12_isTaking 31 = .ok (.iconst 1, 1) := by decide +kernel
theorem dX12_isTaking_32 : decode cX12_isTaking 32 = .ok (.if_icmp .ne 18, 3) := by decide +kernel
theorem dX12_isTaking_35 : decode cX12_isTaking 35 = .ok (.iload_n 2, 1) := by decide +kernel
theorem dX12_isTaking_36 : decode cX12_isTaking 36 = .ok (.bipush 8, 2) := by decide +kernel
theorem dX12_isTaking_38 : decode cX12_isTaking 38 = .ok (.irem, 1) := by decide +kernel
theorem dX12_isTaking_39 : decode cX12_isTaking 39 = .ok (.iload_n 3, 1) := by decide +kernel
theorem dX12_isTaking_40 : decode cX12_isTaking 40 = .ok (.bipush 8, 2) := by decide +kernel
theorem dX12_isTaking_42 : decode cX12_isTaking 42 = .ok (.irem, 1) := by decide +kernel
theorem dX12_isTaking_43 : decode cX12_isTaking 43 = .ok (.if_icmp .eq 7, 3) := by decide +kernel
theorem dX12_isTaking_46 : decode cX12_isTaking 46 = .ok (.iconst 1, 1) := by decide +kernel
theorem dX12_isTaking_47 : decode cX12_isTaking 47 = .ok (.goto 4, 3) := by decide +kernel
theorem dX12_isTaking_50 : decode cX12_isTaking 50 = .ok (.iconst 0, 1) := by decide +kernel
theorem dX12_isTaking_51 : decode cX12_isTaking 51 = .ok (.ireturn, 1) := by decide +kernel
theorem dX12_make_0 : decode cX12_make 0 = .ok (.iload_n 1, 1) := by decide +kernel
theorem dX12_make_1 : decode cX12_make 1 = .ok (.bipush 64, 2) := by decide +kernel
theorem dX12_make_3 : decode cX12_make 3 = .ok (.irem, 1) := by decide +kernel
theorem dX12_make_4 : decode cX12_make 4 = .ok (.istore_n 2, 1) := by decide +kernel
theorem dX12_make_5 : decode cX12_make 5 = .ok (.iload_n 1, 1) := by decide +kernel
theorem dX12_make_6 : decode cX12_make 6 = .ok (.bipush 64, 2) := by decide +kernel
theorem dX12_make_8 : decode cX12_make 8 = .ok (.idiv, 1) := by decide +kernel
theorem dX12_make_9 : decode cX12_make 9 = .ok (.bipush 64, 2) := by decide +kernel
theorem dX12_make_11 : decode cX12_make 11 = .ok (.irem, 1) := by decide +kernel
theorem dX12_make_12 : decode cX12_make 12 = .ok (.istore_n 3, 1) := by decide +kernel
theorem dX12_make_13 : decode cX12_make 13 = .ok (.iload_n 1, 1) := by decide +kernel
theorem dX12_make_14 : decode cX12_make 14 = .ok (.sipush 4096, 3) := by decide +kernel
theorem dX12_make_17 : decode cX12_make 17 = .ok (.idiv, 1) := by decide +kernel
theorem dX12_make_18 : decode cX12_make 18 = .ok (.istore 4, 2) := by decide +kernel
theorem dX12_make_20 : decode cX12_make 20 = .ok (.aload_n 0, 1) := by decide +kernel
theorem dX12_make_21 : decode cX12_make 21 = .ok (.getfield 70, 3) := by decide +kernel
theorem dX12_make_24 : decode cX12_make 24 = .ok (.iload_n 2, 1) := by decide +kernel
theorem dX12_make_25 : decode cX12_make 25 = .ok (.iaload, 1) := by decide +kernel
theorem dX12_make_26 : decode cX12_make 26 = .ok (.istore 5, 2) := by decide +kernel
theorem dX12_make_28 : decode cX12_make 28 = .ok (.iload 5, 2) := by decide +kernel
theorem dX12_make_30 : decode cX12_make 30 = .ok (.invokestatic 136, 3) := by decide +kernel
theorem dX12_make_33 : decode cX12_make 33 = .ok (.iconst 1, 1) := by decide +kernel
theorem dX12_make_34 : decode cX12_make 34 = .ok (.if_icmp .ne 7, 3) := by decide +kernel
theorem dX12_make_37 : decode cX12_make 37 = .ok (.iconst 1, 1) := by decide +kernel
theorem dX12_make_38 : decode cX12_make 38 = .ok (.goto 4, 3) := by decide +kernel
theorem dX12_make_41 : decode cX12_make 41 = .ok (.iconst 0, 1) := by decide +kernel
theorem dX12_make_42 : decode cX12_make 42 = .ok (.istore 6, 2) := by decide +kernel
theorem dX12_make_44 : decode cX12_make 44 = .ok (.aload_n 0, 1) := by decide +kernel
theorem dX12_make_45 : decode cX12_make 45 = .ok (.iload 6, 2) := by decide +kernel
theorem dX12_make_47 : decode cX12_make 47 = .ok (.ifCond .ne 11, 3) := by decide +kernel
theorem dX12_make_50 : decode cX12_make 50 = .ok (.aload_n 0, 1) := by decide +kernel
theorem dX12_make_51 : decode cX12_make 51 = .ok (.iload_n 1, 1) := by decide +kernel
theorem dX12_make_52 : decode cX12_make 52 = .ok (.invokevirtual 139, 3) := by decide +kernel
theorem dX12_make_55 : decode cX12_make 55 = .ok (.ifCond .eq 7, 3) := by decide +kernel
theorem dX12_make_58 : decode cX12_make 58 = .ok (.iconst 0, 1) := by decide +kernel
theorem dX12_make_59 : decode cX12_make 59 = .ok (.goto 9, 3) := by decide +kernel
theorem dX12_make_62 : decode cX12_make 62 = .ok (.aload_n 0, 1) := by decide +kernel
theorem dX12_make_63 : decode cX12_make 63 = .ok (.getfield 130, 3) := by decide +kernel
theorem dX12_make_66 : decode cX12_make 66 = .ok (.iconst 1, 1) := by decide +kernel
theorem dX12_make_67 : decode cX12_make 67 = .ok (.iadd, 1) := by decide +kernel
theorem dX12_make_68 : decode cX12_make 68 = .ok (.putfield 130, 3) := by decide +kernel
theorem dX12_make_71 : decode cX12_make 71 = .ok (.iload 6, 2) := by decide +kernel
theorem dX12_make_73 : decode cX12_make 73 = .ok (.ifCond .eq 41, 3) := by decide +kernel
theorem dX12_make_76 : decode cX12_make 76 = .ok (.aload_n 0, 1) := by decide +kernel
theorem dX12_make_77 : decode cX12_make 77 = .ok (.getfield 70, 3) := by decide +kernel
theorem dX12_make_80 : decode cX12_make 80 = .ok (.iload_n 3, 1) := by decide +kernel
theorem dX12_make_81 : decode cX12_make 81 = .ok (.iaload, 1) := by decide +kernel
theorem dX12_make_82 : decode cX12_make 82 = .ok (.ifCond .ne 32, 3) := by decide +kernel
theorem dX12_make_85 : decode cX12_make 85 = .ok (.iload_n 2, 1) := by decide +kernel
theorem dX12_make_86 : decode cX12_make 86 = .ok (.bipush 8, 2) := by decide +kernel
theorem dX12_make_88 : decode cX12_make 88 = .ok (.irem, 1) := by decide +kernel
theorem dX12_make_89 : decode cX12_make 89 = .ok (.iload_n 3, 1) := by decide +kernel
theorem dX12_make_90 : decode cX12_make 90 = .ok (.bipush 8, 2) := by decide +kernel
theorem dX12_make_92 : decode cX12_make 92 = .ok (.irem, 1) := by decide +kernel
theorem dX12_make_93 : decode cX12_make 93 = .ok (.if_icmp .eq 21, 3) := by decide +kernel
theorem dX12_make_96 : decode cX12_make 96 = .ok (.aload_n 0, 1) := by decide +kernel
theorem dX12_make_97 : decode cX12_make 97 = .ok (.getfield 70, 3) := by decide +kernel
theorem dX12_make_100 : decode cX12_make 100 = .ok (.iload_n 2, 1) := by decide +kernel
theorem dX12_make_101 : decode cX12_make 101 = .ok (.bipush 8, 2) := by decide +kernel
theorem dX12_make_103 : decode cX12_make 103 = .ok (.idiv, 1) := by decide +kernel
theorem dX12_make_104 : decode cX12_make 104 = .ok (.bipush 8, 2) := by decide +kernel
theorem dX12_make_106 : decode cX12_make 106 = .ok (.imul, 1) := by decide +kernel
theorem dX12_make_107 : decode cX12_make 107 = .ok (.iload_n 3, 1) := by decide +kernel
theorem dX12_make_108 : decode cX12_make 108 = .ok (.bipush 8, 2) := by decide +kernel
theorem dX12_make_110 : decode cX12_make 110 = .ok (.irem, 1) := by decide +kernel
theorem dX12_make_111 : decode cX12_make 111 = .ok (.iadd, 1) := by decide +kernel
theorem dX12_make_112 : decode cX12_make 112 = .ok (.iconst 0, 1) := by decide +kernel
theorem dX12_make_113 : decode cX12_make 113 = .ok (.iastore, 1) := by decide +kernel
theorem dX12_make_114 : decode cX12_make 114 = .ok (.iload 5, 2) := by decide +kernel
theorem dX12_make_116 : decode cX12_make 116 = .ok (.invokestatic 136, 3) := by decide +kernel
theorem dX12_make_119 : decode cX12_make 119 = .ok (.bipush 6, 2) := by decide +kernel
theorem dX12_make_121 : decode cX12_make 121 = .ok (.if_icmp .ne 73, 3) := by decide +kernel
theorem dX12_make_124 : decode cX12_make 124 = .ok (.iload_n 2, 1) := by decide +kernel
theorem dX12_make_125 : decode cX12_make 125 = .ok (.bipush 8, 2) := by decide +kernel
theorem dX12_make_127 : decode cX12_make 127 = .ok (.irem, 1) := by decide +kernel
theorem dX12_make_128 : decode cX12_make 128 = .ok (.iconst 4, 1) := by decide +kernel
theorem dX12_make_129 : decode cX12_make 129 = .ok (.if_icmp .ne 65, 3) := by decide +kernel
theorem dX12_make_132 : decode cX12_make 132 = .ok (.iload_n 3, 1) := by decide +kernel
theorem dX12_make_133 : decode cX12_make 133 = .ok (.bipush 8, 2) := by decide +kernel
theorem dX12_make_135 : decode cX12_make 135 = .ok (.irem, 1) := by decide +kernel
theorem dX12_make_136 : decode cX12_make 136 = .ok (.bipush 6, 2) := by decide +kernel
theorem dX12_make_138 : decode cX12_make 138 = .ok (.if_icmp .eq 11, 3) := by decide +kernel
theorem dX12_make_141 : decode cX12_make 141 = .ok (.iload_n 3, 1) := by decide +kernel
theorem dX12_make_142 : decode cX12_make 142 = .ok (.bipush 8, 2) := by decide +kernel
theorem dX12_make_144 : decode cX12_make 144 = .ok (.irem, 1) := by decide +kernel
theorem dX12_make_145 : decode cX12_make 145 = .ok (.iconst 2, 1) := by decide +kernel
theorem dX12_make_146 : decode cX12_make 146 = .ok (.if_icmp .ne 48, 3) := by decide +kernel
theorem dX12_make_149 : decode cX12_make 149 = .ok (.iload_n 3, 1) := by decide +kernel
theorem dX12_make_150 : decode cX12_make 150 = .ok (.bipush 8, 2) := by decide +kernel
theorem dX12_make_152 : decode cX12_make 152 = .ok (.irem, 1) := by decide +kernel
theorem dX12_make_153 : decode cX12_make 153 = .ok (.bipush 6, 2) := by decide +kernel
theorem dX12_make_155 : decode cX12_make 155 = .ok (.if_icmp .ne 9, 3) := by decide +kernel
theorem dX12_make_158 : decode cX12_make 158 = .ok (.iload_n 2, 1) := by decide +kernel
theorem dX12_make_159 : decode cX12_make 159 = .ok (.iconst 3, 1) := by decide +kernel
theorem dX12_make_160 : decode cX12_make 160 = .ok (.iadd, 1) := by decide +kernel
theorem dX12_make_161 : decode cX12_make 161 = .ok (.goto 6, 3) := by decide +kernel
theorem dX12_make_164 : decode cX12_make 164 = .ok (.iload_n 2, 1) := by decide +kernel
theorem dX12_make_165 : decode cX12_make 165 = .ok (.iconst 4, 1) := by decide +kernel
theorem dX12_make_166 : decode cX12_make 166 = .ok (.isub, 1) := by decide +kernel
theorem dX12_make_167 : decode cX12_make 167 = .ok (.istore 7, 2) := by decide +kernel
theorem dX12_make_169 : decode cX12_make 169 = .ok (.aload_n 0, 1) := by decide +kernel
theorem dX12_make_170 : decode cX12_make 170 = .ok (.getfield 70, 3) := by decide +kernel
theorem dX12_make_173 : decode cX12_make 173 = .ok (.iload_n 2, 1) := by decide +kernel
theorem dX12_make_174 : decode cX12_make 174 = .ok (.iload_n 3, 1) := by decide +kernel
theorem dX12_make_175 : decode cX12_make 175 = .ok (.iadd, 1) := by decide +kernel
theorem dX12_make_176 : decode cX12_make 176 = .ok (.iconst 2, 1) := by decide +kernel
theorem dX12_make_177 : decode cX12_make 177 = .ok (.idiv, 1) := by decide +kernel
theorem dX12_make_178 : decode cX12_make 178 = .ok (.aload_n 0, 1) := by decide +kernel
theorem dX12_make_179 : decode cX12_make 179 = .ok (.getfield 70, 3) := by decide +kernel
theorem dX12_make_182 : decode cX12_make 182 = .ok (.iload 7, 2) := by decide +kernel
theorem dX12_make_184 : decode cX12_make 184 = .ok (.iaload, 1) := by decide +kernel
theorem dX12_make_185 : decode cX12_make 185 = .ok (.iastore, 1) := by decide +kernel
theorem dX12_make_186 : decode cX12_make 186 = .ok (.aload_n 0, 1) := by decide +kernel
theorem dX12_make_187 : decode cX12_make 187 = .ok (.getfield 70, 3) := by decide +kernel
theorem dX12_make_190 : decode cX12_make 190 = .ok (.iload 7, 2) := by decide +kernel
theorem dX12_make_192 : decode cX12_make 192 = .ok (.iconst 0, 1) := by decide +kernel
theorem dX12_make_193 : decode cX12_make 193 = .ok (.iastore, 1) := by decide +kernel
theorem dX12_make_194 : decode cX12_make 194 = .ok (.aload_n 0, 1) := by decide +kernel
theorem dX12_make_195 : decode cX12_make 195 = .ok (.getfield 70, 3) := by decide +kernel
theorem dX12_make_198 : decode cX12_make 198 = .ok (.iload_n 2, 1) := by decide +kernel
theorem dX12_make_199 : decode cX12_make 199 = .ok (.iconst 0, 1) := by decide +kernel
theorem dX12_make_200 : decode cX12_make 200 = .ok (.iastore, 1) := by decide +kernel
theorem dX12_make_201 : decode cX12_make 201 = .ok (.aload_n 0, 1) := by decide +kernel
theorem dX12_make_202 : decode cX12_make 202 = .ok (.getfield 70, 3) := by decide +kernel
theorem dX12_make_205 : decode cX12_make 205 = .ok (.iload_n 3, 1) := by decide +kernel
theorem dX12_make_206 : decode cX12_make 206 = .ok (.iload 4, 2) := by decide +kernel
theorem dX12_make_208 : decode cX12_make 208 = .ok (.ifCond .le 16, 3) := by decide +kernel
theorem dX12_make_211 : decode cX12_make 211 = .ok (.iload 4, 2) := by decide +kernel
theorem dX12_make_213 : decode cX12_make 213 = .ok (.bipush 8, 2) := by decide +kernel
theorem dX12_make_215 : decode cX12_make 215 = .ok (.aload_n 0, 1) := by decide +kernel
theorem dX12_make_216 : decode cX12_make 216 = .ok (.getfield 121, 3) := by decide +kernel
theorem dX12_make_219 : decode cX12_make 219 = .ok (.imul, 1) := by decide +kernel
theorem dX12_make_220 : decode cX12_make 220 = .ok (.iadd, 1) := by decide +kernel
theorem dX12_make_221 : decode cX12_make 221 = .ok (.goto 5, 3) := by decide +kernel
theorem dX12_make_224 : decode cX12_make 224 = .ok (.iload 5, 2) := by decide +kernel
theorem dX12_make_226 : decode cX12_make 226 = .ok (.iastore, 1) := by decide +kernel
theorem dX12_make_227 : decode cX12_make 227 = .ok (.aload_n 0, 1) := by decide +kernel
theorem dX12_make_228 : decode cX12_make 228 = .ok (.iload_n 2, 1) := by decide +kernel
theorem dX12_make_229 : decode cX12_make 229 = .ok (.invokevirtual 143, 3) := by decide +kernel
theorem dX12_make_232 : decode cX12_make 232 = .ok (.aload_n 0, 1) := by decide +kernel
theorem dX12_make_233 : decode cX12_make 233 = .ok (.iload_n 3, 1) := by decide +kernel
theorem dX12_make_234 : decode cX12_make 234 = .ok (.invokevirtual 143, 3) := by decide +kernel
theorem dX12_make_237 : decode cX12_make 237 = .ok (.aload_n 0, 1) := by decide +kernel
theorem dX12_make_238 : decode cX12_make 238 = .ok (.iconst (-1), 1) := by decide +kernel
theorem dX12_make_239 : decode cX12_make 239 = .ok (.putfield 127, 3) := by decide +kernel
theorem dX12_make_242 : decode cX12_make 242 = .ok (.iload 6, 2) := by decide +kernel
theorem dX12_make_244 : decode cX12_make 244 = .ok (.ifCond .eq 75, 3) := by decide +kernel
theorem dX12_make_247 : decode cX12_make 247 = .ok (.iload_n 3, 1) := by decide +kernel
theorem dX12_make_248 : decode cX12_make 248 = .ok (.iload_n 2, 1) := by decide +kernel
theorem dX12_make_249 : decode cX12_make 249 = .ok (.bipush 16, 2) := by decide +kernel
theorem dX12_make_251 : decode cX12_make 251 = .ok (.iadd, 1) := by decide +kernel
theorem dX12_make_252 : decode cX12_make 252 = .ok (.if_icmp .eq 11, 3) := by decide +kernel
theorem dX12_make_255 : decode cX12_make 255 = .ok (.iload_n 3, 1) := by decide +kernel
theorem dX12_make_256 : decode cX12_make 256 = .ok (.iload_n 2, 1) := by decide +kernel
theorem dX12_make_257 : decode cX12_make 257 = .ok (.bipush 16, 2) := by decide +kernel
theorem dX12_make_259 : decode cX12_make 259 = .ok (.isub, 1) := by decide +kernel
theorem dX12_make_260 : decode cX12_make 260 = .ok (.if_icmp .ne 59, 3) := by decide +kernel
theorem dX12_make_263 : decode cX12_make 263 = .ok (.iconst 1, 1) := by decide +kernel
theorem dX12_make_264 : decode cX12_make 264 = .ok (.bipush 8, 2) := by decide +kernel
theorem dX12_make_266 : decode cX12_make 266 = .ok (.iconst 1, 1) := by decide +kernel
theorem dX12_make_267 : decode cX12_make 267 = .ok (.aload_n 0, 1) := by decide +kernel
theorem dX12_make_268 : decode cX12_make 268 = .ok (.getfield 121, 3) := by decide +kernel
theorem dX12_make_271 : decode cX12_make 271 = .ok (.isub, 1) := by decide +kernel
theorem dX12_make_272 : decode cX12_make 272 = .ok (.imul, 1) := by decide +kernel
theorem dX12_make_273 : decode cX12_make 273 = .ok (.iadd, 1) := by decide +kernel
theorem dX12_make_274 : decode cX12_make 274 = .ok (.istore 7, 2) := by decide +kernel
theorem dX12_make_276 : decode cX12_make 276 = .ok (.aload_n 0, 1) := by decide +kernel
theorem dX12_make_277 : decode cX12_make 277 = .ok (.aload_n 0, 1) := by decide +kernel
theorem dX12_make_278 : decode cX12_make 278 = .ok (.iload_n 3, 1) := by decide +kernel
theorem dX12_make_279 : decode cX12_make 279 = .ok (.iconst (-1), 1) := by decide +kernel
theorem dX12_make_280 : decode cX12_make 280 = .ok (.iconst 0, 1) := by decide +kernel
theorem dX12_make_281 : decode cX12_make 281 = .ok (.invokestatic 103, 3) := by decide +kernel
theorem dX12_make_284 : decode cX12_make 284 = .ok (.iload 7, 2) := by decide +kernel
theorem dX12_make_286 : decode cX12_make 286 = .ok (.invokevirtual 107, 3) := by decide +kernel
theorem dX12_make_289 : decode cX12_make 289 = .ok (.ifCond .ne 18, 3) := by decide +kernel
theorem dX12_make_292 : decode cX12_make 292 = .ok (.aload_n 0, 1) := by decide +kernel
theorem dX12_make_293 : decode cX12_make 293 = .ok (.iload_n 3, 1) := by decide +kernel
theorem dX12_make_294 : decode cX12_make 294 = .ok (.iconst 1, 1) := by decide +kernel
theorem dX12_make_295 : decode cX12_make 295 = .ok (.iconst 0, 1) := by decide +kernel
theorem dX12_make_296 : decode cX12_make 296 = .ok (.invokestatic 103, 3) := by decide +kernel
theorem dX12_make_299 : decode cX12_make 299 = .ok (.iload 7, 2) := by decide +kernel
theorem dX12_make_301 : decode cX12_make 301 = .ok (.invokevirtual 107, 3) := by decide +kernel
theorem dX12_make_304 : decode cX12_make 304 = .ok (.ifCond .eq 11, 3) := by decide +kernel
theorem dX12_make_307 : decode cX12_make 307 = .ok (.iload_n 2, 1) := by decide +kernel
theorem dX12_make_308 : decode cX12_make 308 = .ok (.iload_n 3, 1) := by decide +kernel
theorem dX12_make_309 : decode cX12_make 309 = .ok (.iadd, 1) := by decide +kernel
theorem dX12_make_310 : decode cX12_make 310 = .ok (.iconst 2, 1) := by decide +kernel
theorem dX12_make_311 : decode cX12_make 311 = .ok (.idiv, 1) := by decide +kernel
theorem dX12_make_312 : decode cX12_make 312 = .ok (.goto 4, 3) := by decide +kernel
theorem dX12_make_315 : decode cX12_make 315 = .ok (.iconst (-1), 1) := by decide +kernel
theorem dX12_make_316 : decode cX12_make 316 = .ok (.putfield 127, 3) := by decide +kernel
theorem dX12_make_319 : decode cX12_make 319 = .ok (.aload_n 0, 1) := by decide +kernel
theorem dX12_make_320 : decode cX12_make 320 = .ok (.aload_n 0, 1) := by decide +kernel
theorem dX12_make_321 : decode cX12_make 321 = .ok (.getfield 133, 3) := by decide +kernel
theorem dX12_make_324 : decode cX12_make 324 = .ok (.aload_n 0, 1) := by decide +kernel
theorem dX12_make_325 : decode cX12_make 325 = .ok (.getfield 121, 3) := by decide +kernel
theorem dX12_make_328 : decode cX12_make 328 = .ok (.iadd, 1) := by decide +kernel
theorem dX12_make_329 : decode cX12_make 329 = .ok (.putfield 133, 3) := by decide +kernel
theorem dX12_make_332 : decode cX12_make 332 = .ok (.aload_n 0, 1) := by decide +kernel
theorem dX12_make_333 : decode cX12_make 333 = .ok (.iconst 1, 1) := by decide +kernel
theorem dX12_make_334 : decode cX12_make 334 = .ok (.aload_n 0, 1) := by decide +kernel
theorem dX12_make_335 : decode cX12_make 335 = .ok (.getfield 121, 3) := by decide +kernel
theorem dX12_make_338 : decode cX12_make 338 = .ok (.isub, 1) := by decide +kernel
theorem dX12_make_339 : decode cX12_make 339 = .ok (.putfield 121, 3) := by decide +kernel
theorem dX12_make_342 : decode cX12_make 342 = .ok (.return_, 1) := by decide +kernel
theorem dX12_isSafe_0 : decode cX12_isSafe 0 = .ok (.aload_n 0, 1) := by decide +kernel
theorem dX12_isSafe_1 : decode cX12_isSafe 1 = .ok (.invokevirtual 146, 3) := by decide +kernel
theorem dX12_isSafe_4 : decode cX12_isSafe 4 = .ok (.aload_n 0, 1) := by decide +kernel
theorem dX12_isSafe_5 : decode cX12_isSafe 5 = .ok (.iload_n 1, 1) := by decide +kernel
theorem dX12_isSafe_6 : decode cX12_isSafe 6 = .ok (.invokevirtual 149, 3) := by decide +kernel
theorem dX12_isSafe_9 : decode cX12_isSafe 9 = .ok (.aload_n 0, 1) := by decide +kernel
theorem dX12_isSafe_10 : decode cX12_isSafe 10 = .ok (.iconst 1, 1) := by decide +kernel
theorem dX12_isSafe_11 : decode cX12_isSafe 11 = .ok (.aload_n 0, 1) := by decide +kernel
theorem dX12_isSafe_12 : decode cX12_isSafe 12 = .ok (.getfield 121, 3) := by decide +kernel
theorem dX12_isSafe_15 : decode cX12_isSafe 15 = .ok (.isub, 1) := by decide +kernel
theorem dX12_isSafe_16 : decode cX12_isSafe 16 = .ok (.invokevirtual 152, 3) := by decide +kernel
theorem dX12_isSafe_19 : decode cX12_isSafe 19 = .ok (.ifCond .ne 7, 3) := by decide +kernel
theorem dX12_isSafe_22 : decode cX12_isSafe 22 = .ok (.iconst 1, 1) := by decide +kernel
theorem dX12_isSafe_23 : decode cX12_isSafe 23 = .ok (.goto 4, 3) := by decide +kernel
theorem dX12_isSafe_26 : decode cX12_isSafe 26 = .ok (.iconst 0, 1) := by decide +kernel
theorem dX12_isSafe_27 : decode cX12_isSafe 27 = .ok (.istore_n 2, 1) := by decide +kernel
theorem dX12_isSafe_28 : decode cX12_isSafe 28 = .ok (.aload_n 0, 1) := by decide +kernel
theorem dX12_isSafe_29 : decode cX12_isSafe 29 = .ok (.invokevirtual 155, 3) := by decide +kernel
theorem dX12_isSafe_32 : decode cX12_isSafe 32 = .ok (.iload_n 2, 1) := by decide +kernel
theorem dX12_isSafe_33 : decode cX12_isSafe 33 = .ok (.ireturn, 1) := by decide +kernel
theorem dX12_isClear_0 : decode cX12_isClear 0 = .ok (.iconst 1, 1) := by decide +kernel
theorem dX12_isClear_1 : decode cX12_isClear 1 = .ok (.istore_n 3, 1) := by decide +kernel
theorem dX12_isClear_2 : decode cX12_isClear 2 = .ok (.iload_n 1, 1) := by decide +kernel
theorem dX12_isClear_3 : decode cX12_isClear 3 = .ok (.istore 4, 2) := by decide +kernel
theorem dX12_isClear_5 : decode cX12_isClear 5 = .ok (.iload 4, 2) := by decide +kernel
theorem dX12_isClear_7 : decode cX12_isClear 7 = .ok (.iload_n 2, 1) := by decide +kernel
theorem dX12_isClear_8 : decode cX12_isClear 8 = .ok (.if_icmp .gt 29, 3) := by decide +kernel
theorem dX12_isClear_11 : decode cX12_isClear 11 = .ok (.iload_n 3, 1) := by decide +kernel
theorem dX12_isClear_12 : decode cX12_isClear 12 = .ok (.ifCond .eq 17, 3) := by decide +kernel
theorem dX12_isClear_15 : decode cX12_isClear 15 = .ok (.aload_n 0, 1) := by decide +kernel
theorem dX12_isClear_16 : decode cX12_isClear 16 = .ok (.getfield 70, 3) := by decide +kernel
theorem dX12_isClear_19 : decode cX12_isClear 19 = .ok (.iload 4, 2) := by decide +kernel
theorem dX12_isClear_21 : decode cX12_isClear 21 = .ok (.iaload, 1) := by decide +kernel
theorem dX12_isClear_22 : decode cX12_isClear 22 = .ok (.ifCond .ne 7, 3) := by decide +kernel
theorem dX12_isClear_25 : decode cX12_isClear 25 = .ok (.iconst 1, 1) := by decide +kernel
theorem dX12_isClear_26 : decode cX12_isClear 26 = .ok (.goto 4, 3) := by decide +kernel
theorem dX12_isClear_29 : decode cX12_isClear 29 = .ok (.iconst 0, 1) := by decide +kernel
theorem dX12_isClear_30 : decode cX12_isClear 30 = .ok (.istore_n 3, 1) := by decide +kernel
theorem dX12_isClear_31 : decode cX12_isClear 31 = .ok (.iinc 4 1, 3) := by decide +kernel
theorem dX12_isClear_34 : decode cX12_isClear 34 = .ok (.goto (-29), 3) := by decide +kernel
theorem dX12_isClear_37 : decode cX12_isClear 37 = .ok (.iload_n 3, 1) := by decide +kernel
theorem dX12_isClear_38 : decode cX12_isClear 38 = .ok (.ireturn, 1) := by decide +kernel
theorem dX12_mayCastle_0 : decode cX12_mayCastle 0 = .ok (.iconst 4, 1) := by decide +kernel
theorem dX12_mayCastle_1 : decode cX12_mayCastle 1 = .ok (.bipush 56, 2) := by decide +kernel
theorem dX12_mayCastle_3 : decode cX12_mayCastle 3 = .ok (.aload_n 0, 1) := by decide +kernel
theorem dX12_mayCastle_4 : decode cX12_mayCastle 4 = .ok (.getfield 121, 3) := by decide +kernel
theorem dX12_mayCastle_7 : decode cX12_mayCastle 7 = .ok (.imul, 1) := by decide +kernel
theorem dX12_mayCastle_8 : decode cX12_mayCastle 8 = .ok (.iadd, 1) := by decide +kernel
theorem dX12_mayCastle_9 : decode cX12_mayCastle 9 = .ok (.istore_n 2, 1) := by decide +kernel
theorem dX12_mayCastle_10 : decode cX12_mayCastle 10 = .ok (.iload_n 1, 1) := by decide +kernel
theorem dX12_mayCastle_11 : decode cX12_mayCastle 11 = .ok (.iload_n 2, 1) := by decide +kernel
theorem dX12_mayCastle_12 : decode cX12_mayCastle 12 = .ok (.if_icmp .le 7, 3) := by decide +kernel
theorem dX12_mayCastle_15 : decode cX12_mayCastle 15 = .ok (.iconst 1, 1) := by decide +kernel
theorem dX12_mayCastle_16 : decode cX12_mayCastle 16 = .ok (.goto 4, 3) := by decide +kernel
theorem dX12_mayCastle_19 : decode cX12_mayCastle 19 = .ok (.iconst 0, 1) := by decide +kernel
theorem dX12_mayCastle_20 : decode cX12_mayCastle 20 = .ok (.istore_n 3, 1) := by decide +kernel
theorem dX12_mayCastle_21 : decode cX12_mayCastle 21 = .ok (.aload_n 0, 1) := by decide +kernel
theorem dX12_mayCastle_22 : decode cX12_mayCastle 22 = .ok (.getfield 124, 3) := by decide +kernel
theorem dX12_mayCastle_25 : decode cX12_mayCastle 25 = .ok (.iconst 2, 1) := by decide +kernel
theorem dX12_mayCastle_26 : decode cX12_mayCastle 26 = .ok (.aload_n 0, 1) := by decide +kernel
theorem dX12_mayCastle_27 : decode cX12_mayCastle 27 = .ok (.getfield 121, 3) := by decide +kernel
theorem dX12_mayCastle_30 : decode cX12_mayCastle 30 = .ok (.imul, 1) := by decide +kernel
theorem dX12_mayCastle_31 : decode cX12_mayCastle 31 = .ok (.iload_n 3, 1) := by decide +kernel
theorem dX12_mayCastle_32 : decode cX12_mayCastle 32 = .ok (.ifCond .eq 7, 3) := by decide +kernel
theorem dX12_mayCastle_35 : decode cX12_mayCastle 35 = .ok (.iconst 0, 1) := by decide +kernel
theorem dX12_mayCastle_36 : decode cX12_mayCastle 36 = .ok (.goto 4, 3) := by decide +kernel
theorem dX12_mayCastle_39 : decode cX12_mayCastle 39 = .ok (.iconst 1, 1) := by decide +kernel
theorem dX12_mayCastle_40 : decode cX12_mayCastle 40 = .ok (.iadd, 1) := by decide +kernel
theorem dX12_mayCastle_41 : decode cX12_mayCastle 41 = .ok (.ishr, 1) := by decide +kernel
theorem dX12_mayCastle_42 : decode cX12_mayCastle 42 = .ok (.iconst 1, 1) := by decide +kernel
theorem dX12_mayCastle_43 : decode cX12_mayCastle 43 = .ok (.iand, 1) := by decide +kernel
theorem dX12_mayCastle_44 : decode cX12_mayCastle 44 = .ok (.iconst 1, 1) := by decide +kernel
theorem dX12_mayCastle_45 : decode cX12_mayCastle 45 = .ok (.if_icmp .ne 7, 3) := by decide +kernel
theorem dX12_mayCastle_48 : decode cX12_mayCastle 48 = .ok (.iconst 1, 1) := by decide +kernel
theorem dX12_mayCastle_49 : decode cX12_mayCastle 49 = .ok (.goto 4, 3) := by decide +kernel
theorem dX12_mayCastle_52 : decode cX12_mayCastle 52 = .ok (.iconst 0, 1) := by decide +kernel
theorem dX12_mayCastle_53 : decode cX12_mayCastle 53 = .ok (.istore 4, 2) := by decide +kernel
theorem dX12_mayCastle_55 : decode cX12_mayCastle 55 = .ok (.iload_n 3, 1) := by decide +kernel
theorem dX12_mayCastle_56 : decode cX12_mayCastle 56 = .ok (.ifCond .eq 16, 3) := by decide +kernel
theorem dX12_mayCastle_59 : decode cX12_mayCastle 59 = .ok (.aload_n 0, 1) := by decide +kernel
theorem dX12_mayCastle_60 : decode cX12_mayCastle 60 = .ok (.iload_n 2, 1) := by decide +kernel
theorem dX12_mayCastle_61 : decode cX12_mayCastle 61 = .ok (.iconst 1, 1) := by decide +kernel
theorem dX12_mayCastle_62 : decode cX12_mayCastle 62 = .ok (.iadd, 1) := by decide +kernel
theorem dX12_mayCastle_63 : decode cX12_mayCastle 63 = .ok (.iload_n 2, 1) := by decide +kernel
theorem dX12_mayCastle_64 : decode cX12_mayCastle 64 = .ok (.iconst 2, 1) := by decide +kernel
theorem dX12_mayCastle_65 : decode cX12_mayCastle 65 = .ok (.iadd, 1) := by decide +kernel
theorem dX12_mayCastle_66 : decode cX12_mayCastle 66 = .ok (.invokevirtual 158, 3) := by decide +kernel
theorem dX12_mayCastle_69 : decode cX12_mayCastle 69 = .ok (.goto 13, 3) := by decide +kernel
theorem dX12_mayCastle_72 : decode cX12_mayCastle 72 = .ok (.aload_n 0, 1) := by decide +kernel
theorem dX12_mayCastle_73 : decode cX12_mayCastle 73 = .ok (.iload_n 2, 1) := by decide +kernel
theorem dX12_mayCastle_74 : decode cX12_mayCastle 74 = .ok (.iconst 3, 1) := by decide +kernel
theorem dX12_mayCastle_75 : decode cX12_mayCastle 75 = .ok (.isub, 1) := by decide +kernel
theorem dX12_mayCastle_76 : decode cX12_mayCastle 76 = .ok (.iload_n 2, 1) := by decide +kernel
theorem dX12_mayCastle_77 : decode cX12_mayCastle 77 = .ok (.iconst 1, 1) := by decide +kernel
theorem dX12_mayCastle_78 : decode cX12_mayCastle 78 = .ok (.isub, 1) := by decide +kernel
theorem dX12_mayCastle_79 : decode cX12_mayCastle 79 = .ok (.invokevirtual 158, 3) := by decide +kernel
theorem dX12_mayCastle_82 : decode cX12_mayCastle 82 = .ok (.istore 5, 2) := by decide +kernel
theorem dX12_mayCastle_84 : decode cX12_mayCastle 84 = .ok (.iload 4, 2) := by decide +kernel
theorem dX12_mayCastle_86 : decode cX12_mayCastle 86 = .ok (.ifCond .eq 44, 3) := by decide +kernel
theorem dX12_mayCastle_89 : decode cX12_mayCastle 89 = .ok (.iload 5, 2) := by decide +kernel
theorem dX12_mayCastle_91 : decode cX12_mayCastle 91 = .ok (.ifCond .eq 39, 3) := by decide +kernel
theorem dX12_mayCastle_94 : decode cX12_mayCastle 94 = .ok (.aload_n 0, 1) := by decide +kernel
theorem dX12_mayCastle_95 : decode cX12_mayCastle 95 = .ok (.iload_n 2, 1) := by decide +kernel
theorem dX12_mayCastle_96 : decode cX12_mayCastle 96 = .ok (.iconst 1, 1) := by decide +kernel
theorem dX12_mayCastle_97 : decode cX12_mayCastle 97 = .ok (.aload_n 0, 1) := by decide +kernel
theorem dX12_mayCastle_98 : decode cX12_mayCastle 98 = .ok (.getfield 121, 3) := by decide +kernel
theorem dX12_mayCastle_101 : decode cX12_mayCastle 101 = .ok (.isub, 1) := by decide +kernel
theorem dX12_mayCastle_102 : decode cX12_mayCastle 102 = .ok (.invokevirtual 118, 3) := by decide +kernel
theorem dX12_mayCastle_105 : decode cX12_mayCastle 105 = .ok (.ifCond .ne 25, 3) := by decide +kernel
theorem dX12_mayCastle_108 : decode cX12_mayCastle 108 = .ok (.aload_n 0, 1) := by decide +kernel
theorem dX12_mayCastle_109 : decode cX12_mayCastle 109 = .ok (.iload_n 2, 1) := by decide +kernel
theorem dX12_mayCastle_110 : decode cX12_mayCastle 110 = .ok (.iload_n 1, 1) := by decide +kernel
theorem dX12_mayCastle_111 : decode cX12_mayCastle 111 = .ok (.iadd, 1) := by decide +kernel
theorem dX12_mayCastle_112 : decode cX12_mayCastle 112 = .ok (.iconst 2, 1) := by decide +kernel
theorem dX12_mayCastle_113 : decode cX12_mayCastle 113 = .ok (.idiv, 1) := by decide +kernel
theorem dX12_mayCastle_114 : decode cX12_mayCastle 114 = .ok (.iconst 1, 1) := by decide +kernel
theorem dX12_mayCastle_115 : decode cX12_mayCastle 115 = .ok (.aload_n 0, 1) := by decide +kernel
theorem dX12_mayCastle_116 : decode cX12_mayCastle 116 = .ok (.getfield 121, 3) := by decide +kernel
theorem dX12_mayCastle_119 : decode cX12_mayCastle 119 = .ok (.isub, 1) := by decide +kernel
theorem dX12_mayCastle_120 : decode cX12_mayCastle 120 = .ok (.invokevirtual 118, 3) := by decide +kernel
theorem dX12_mayCastle_123 : decode cX12_mayCastle 123 = .ok (.ifCond .ne 7, 3) := by decide +kernel
theorem dX12_mayCastle_126 : decode cX12_mayCastle 126 = .ok (.iconst 1, 1) := by decide +kernel
theorem dX12_mayCastle_127 : decode cX12_mayCastle 127 = .ok (.goto 4, 3) := by decide +kernel
theorem dX12_mayCastle_130 : decode cX12_mayCastle 130 = .ok (.iconst 0, 1) := by decide +kernel
theorem dX12_mayCastle_131 : decode cX12_mayCastle 131 = .ok (.ireturn, 1) := by decide +kernel
theorem dX12_pawnGoes_0 : decode cX12_pawnGoes 0 = .ok (.aload_n 0, 1) := by decide +kernel
theorem dX12_pawnGoes_1 : decode cX12_pawnGoes 1 = .ok (.getfield 121, 3) := by decide +kernel
theorem dX12_pawnGoes_4 : decode cX12_pawnGoes 4 = .ok (.ifCond .ne 8, 3) := by decide +kernel
theorem dX12_pawnGoes_7 : decode cX12_pawnGoes 7 = .ok (.bipush 8, 2) := by decide +kernel
theorem dX12_pawnGoes_9 : decode cX12_pawnGoes 9 = .ok (.goto 5, 3) := by decide +kernel
theorem dX12_pawnGoes_12 : decode cX12_pawnGoes 12 = .ok (.bipush (-8), 2) := by decide +kernel
theorem dX12_pawnGoes_14 : decode cX12_pawnGoes 14 = .ok (.istore_n 3, 1) := by decide +kernel
theorem dX12_pawnGoes_15 : decode cX12_pawnGoes 15 = .ok (.iload_n 2, 1) := by decide +kernel
theorem dX12_pawnGoes_16 : decode cX12_pawnGoes 16 = .ok (.iload_n 1, 1) := by decide +kernel
theorem dX12_pawnGoes_17 : decode cX12_pawnGoes 17 = .ok (.iload_n 3, 1) := by decide +kernel
theorem dX12_pawnGoes_18 : decode cX12_pawnGoes 18 = .ok (.iadd, 1) := by decide +kernel
theorem dX12_pawnGoes_19 : decode cX12_pawnGoes 19 = .ok (.if_icmp .ne 18, 3) := by decide +kernel
theorem dX12_pawnGoes_22 : decode cX12_pawnGoes 22 = .ok (.aload_n 0, 1) := by decide +kernel
theorem dX12_pawnGoes_23 : decode cX12_pawnGoes 23 = .ok (.getfield 70, 3) := by decide +kernel
theorem dX12_pawnGoes_26 : decode cX12_pawnGoes 26 = .ok (.iload_n 2, 1) := by decide +kernel
theorem dX12_pawnGoes_27 : decode cX12_pawnGoes 27 = .ok (.iaload, 1) := by decide +kernel
theorem dX12_pawnGoes_28 : decode cX12_pawnGoes 28 = .ok (.ifCond .ne 7, 3) := by decide +kernel
theorem dX12_pawnGoes_31 : decode cX12_pawnGoes 31 = .ok (.iconst 1, 1) := by decide +kernel
theorem dX12_pawnGoes_32 : decode cX12_pawnGoes 32 = .ok (.goto 4, 3) := by decide +kernel
theorem dX12_pawnGoes_35 : decode cX12_pawnGoes 35 = .ok (.iconst 0, 1) := by decide +kernel
theorem dX12_pawnGoes_36 : decode cX12_pawnGoes 36 = .ok (.ireturn, 1) := by decide +kernel
theorem dX12_pawnGoes_37 : decode cX12_pawnGoes 37 = .ok (.iload_n 2, 1) := by decide +kernel
theorem dX12_pawnGoes_38 : decode cX12_pawnGoes 38 = .ok (.iload_n 1, 1) := by decide +kernel
theorem dX12_pawnGoes_39 : decode cX12_pawnGoes 39 = .ok (.iconst 2, 1) := by decide +kernel
theorem dX12_pawnGoes_40 : decode cX12_pawnGoes 40 = .ok (.iload_n 3, 1) := by decide +kernel
theorem dX12_pawnGoes_41 : decode cX12_pawnGoes 41 = .ok (.imul, 1) := by decide +kernel
theorem dX12_pawnGoes_42 : decode cX12_pawnGoes 42 = .ok (.iadd, 1) := by decide +kernel
theorem dX12_pawnGoes_43 : decode cX12_pawnGoes 43 = .ok (.if_icmp .ne 49, 3) := by decide +kernel
theorem dX12_pawnGoes_46 : decode cX12_pawnGoes 46 = .ok (.iload_n 1, 1) := by decide +kernel
theorem dX12_pawnGoes_47 : decode cX12_pawnGoes 47 = .ok (.bipush 8, 2) := by decide +kernel
theorem dX12_pawnGoes_49 : decode cX12_pawnGoes 49 = .ok (.idiv, 1) := by decide +kernel
theorem dX12_pawnGoes_50 : decode cX12_pawnGoes 50 = .ok (.aload_n 0, 1) := by decide +kernel
theorem dX12_pawnGoes_51 : decode cX12_pawnGoes 51 = .ok (.getfield 121, 3) := by decide +kernel
theorem dX12_pawnGoes_54 : decode cX12_pawnGoes 54 = .ok (.ifCond .ne 7, 3) := by decide +kernel
theorem dX12_pawnGoes_57 : decode cX12_pawnGoes 57 = .ok (.iconst 1, 1) := by decide +kernel
theorem dX12_pawnGoes_58 : decode cX12_pawnGoes 58 = .ok (.goto 5, 3) := by decide +kernel
theorem dX12_pawnGoes_61 : decode cX12_pawnGoes 61 = .ok (.bipush 6, 2) := by decide +kernel
theorem dX12_pawnGoes_63 : decode cX12_pawnGoes 63 = .ok (.if_icmp .ne 27, 3) := by decide +kernel
theorem dX12_pawnGoes_66 : decode cX12_pawnGoes 66 = .ok (.aload_n 0, 1) := by decide +kernel
theorem dX12_pawnGoes_67 : decode cX12_pawnGoes 67 = .ok (.getfield 70, 3) := by decide +kernel
theorem dX12_pawnGoes_70 : decode cX12_pawnGoes 70 = .ok (.iload_n 1, 1) := by decide +kernel
theorem dX12_pawnGoes_71 : decode cX12_pawnGoes 71 = .ok (.iload_n 3, 1) := by decide +kernel
theorem dX12_pawnGoes_72 : decode cX12_pawnGoes 72 = .ok (.iadd, 1) := by decide +kernel
theorem dX12_pawnGoes_73 : decode cX12_pawnGoes 73 = .ok (.iaload, 1) := by decide +kernel
theorem dX12_pawnGoes_74 : decode cX12_pawnGoes 74 = .ok (.ifCond .ne 16, 3) := by decide +kernel
theorem dX12_pawnGoes_77 : decode cX12_pawnGoes 77 = .ok (.aload_n 0, 1) := by decide +kernel
theorem dX12_pawnGoes_78 : decode cX12_pawnGoes 78 = .ok (.getfield 70, 3) := by decide +kernel
theorem dX12_pawnGoes_81 : decode cX12_pawnGoes 81 = .ok (.iload_n 2, 1) := by decide +kernel
theorem dX12_pawnGoes_82 : decode cX12_pawnGoes 82 = .ok (.iaload, 1) := by decide +kernel
theorem dX12_pawnGoes_83 : decode cX12_pawnGoes 83 = .ok (.ifCond .ne 7, 3) := by decide +kernel
theorem dX12_pawnGoes_86 : decode cX12_pawnGoes 86 = .ok (.iconst 1, 1) := by decide +kernel
theorem dX12_pawnGoes_87 : decode cX12_pawnGoes 87 = .ok (.goto 4, 3) := by decide +kernel
theorem dX12_pawnGoes_90 : decode cX12_pawnGoes 90 = .ok (.iconst 0, 1) := by decide +kernel
theorem dX12_pawnGoes_91 : decode cX12_pawnGoes 91 = .ok (.ireturn, 1) := by decide +kernel
theorem dX12_pawnGoes_92 : decode cX12_pawnGoes 92 = .ok (.iload_n 2, 1) := by decide +kernel
theorem dX12_pawnGoes_93 : decode cX12_pawnGoes 93 = .ok (.bipush 8, 2) := by decide +kernel
theorem dX12_pawnGoes_95 : decode cX12_pawnGoes 95 = .ok (.irem, 1) := by decide +kernel
theorem dX12_pawnGoes_96 : decode cX12_pawnGoes 96 = .ok (.iload_n 1, 1) := by decide +kernel
theorem dX12_pawnGoes_97 : decode cX12_pawnGoes 97 = .ok (.bipush 8, 2) := by decide +kernel
theorem dX12_pawnGoes_99 : decode cX12_pawnGoes 99 = .ok (.irem, 1) := by decide +kernel
theorem dX12_pawnGoes_100 : decode cX12_pawnGoes 100 = .ok (.isub, 1) := by decide +kernel
theorem dX12_pawnGoes_101 : decode cX12_pawnGoes 101 = .ok (.istore 4, 2) := by decide +kernel
theorem dX12_pawnGoes_103 : decode cX12_pawnGoes 103 = .ok (.iload_n 2, 1) := by decide +kernel
theorem dX12_pawnGoes_104 : decode cX12_pawnGoes 104 = .ok (.bipush 8, 2) := by decide +kernel
theorem dX12_pawnGoes_106 : decode cX12_pawnGoes 106 = .ok (.idiv, 1) := by decide +kernel
theorem dX12_pawnGoes_107 : decode cX12_pawnGoes 107 = .ok (.iload_n 1, 1) := by decide +kernel
theorem dX12_pawnGoes_108 : decode cX12_pawnGoes 108 = .ok (.bipush 8, 2) := by decide +kernel
theorem dX12_pawnGoes_110 : decode cX12_pawnGoes 110 = .ok (.idiv, 1) := by decide +kernel
theorem dX12_pawnGoes_111 : decode cX12_pawnGoes 111 = .ok (.iload_n 3, 1) := by decide +kernel
theorem dX12_pawnGoes_112 : decode cX12_pawnGoes 112 = .ok (.bipush 8, 2) := by decide +kernel
theorem dX12_pawnGoes_114 : decode cX12_pawnGoes 114 = .ok (.idiv, 1) := by decide +kernel
theorem dX12_pawnGoes_115 : decode cX12_pawnGoes 115 = .ok (.iadd, 1) := by decide +kernel
theorem dX12_pawnGoes_116 : decode cX12_pawnGoes 116 = .ok (.if_icmp .ne 45, 3) := by decide +kernel
theorem dX12_pawnGoes_119 : decode cX12_pawnGoes 119 = .ok (.iload 4, 2) := by decide +kernel
theorem dX12_pawnGoes_121 : decode cX12_pawnGoes 121 = .ok (.iconst 1, 1) := by decide +kernel
theorem dX12_pawnGoes_122 : decode cX12_pawnGoes 122 = .ok (.if_icmp .eq 9, 3) := by decide +kernel
theorem dX12_pawnGoes_125 : decode cX12_pawnGoes 125 = .ok (.iload 4, 2) := by decide +kernel
theorem dX12_pawnGoes_127 : decode cX12_pawnGoes 127 = .ok (.iconst (-1), 1) := by decide +kernel
theorem dX12_pawnGoes_128 : decode cX12_pawnGoes 128 = .ok (.if_icmp .ne 33, 3) := by decide +kernel
theorem dX12_pawnGoes_131 : decode cX12_pawnGoes 131 = .ok (.aload_n 0, 1) := by decide +kernel
theorem dX12_pawnGoes_132 : decode cX12_pawnGoes 132 = .ok (.getfield 70, 3) := by decide +kernel
theorem dX12_pawnGoes_135 : decode cX12_pawnGoes 135 = .ok (.iload_n 2, 1) := by decide +kernel
theorem dX12_pawnGoes_136 : decode cX12_pawnGoes 136 = .ok (.iaload, 1) := by decide +kernel
theorem dX12_pawnGoes_137 : decode cX12_pawnGoes 137 = .ok (.invokestatic 161, 3) := by decide +kernel
theorem dX12_pawnGoes_140 : decode cX12_pawnGoes 140 = .ok (.iconst 1, 1) := by decide +kernel
theorem dX12_pawnGoes_141 : decode cX12_pawnGoes 141 = .ok (.aload_n 0, 1) := by decide +kernel
theorem dX12_pawnGoes_142 : decode cX12_pawnGoes 142 = .ok (.getfield 121, 3) := by decide +kernel
theorem dX12_pawnGoes_145 : decode cX12_pawnGoes 145 = .ok (.isub, 1) := by decide +kernel
theorem dX12_pawnGoes_146 : decode cX12_pawnGoes 146 = .ok (.if_icmp .eq 11, 3) := by decide +kernel
theorem dX12_pawnGoes_149 : decode cX12_pawnGoes 149 = .ok (.iload_n 2, 1) := by decide +kernel
theorem dX12_pawnGoes_150 : decode cX12_pawnGoes 150 = .ok (.aload_n 0, 1) := by decide +kernel
theorem dX12_pawnGoes_151 : decode cX12_pawnGoes 151 = .ok (.getfield 127, 3) := by decide +kernel
theorem dX12_pawnGoes_154 : decode cX12_pawnGoes 154 = .ok (.if_icmp .ne 7, 3) := by decide +kernel
theorem dX12_pawnGoes_157 : decode cX12_pawnGoes 157 = .ok (.iconst 1, 1) := by decide +kernel
theorem dX12_pawnGoes_158 : decode cX12_pawnGoes 158 = .ok (.goto 4, 3) := by decide +kernel
theorem dX12_pawnGoes_161 : decode cX12_pawnGoes 161 = .ok (.iconst 0, 1) := by decide +kernel
theorem dX12_pawnGoes_162 : decode cX12_pawnGoes 162 = .ok (.ireturn, 1) := by decide +kernel
theorem dX12_goes_0 : decode cX12_goes 0 = .ok (.aload_n 0, 1) := by decide +kernel
theorem dX12_goes_1 : decode cX12_goes 1 = .ok (.getfield 70, 3) := by decide +kernel
theorem dX12_goes_4 : decode cX12_goes 4 = .ok (.iload_n 1, 1) := by decide +kernel
theorem dX12_goes_5 : decode cX12_goes 5 = .ok (.iaload, 1) := by decide +kernel
theorem dX12_goes_6 : decode cX12_goes 6 = .ok (.invokestatic 161, 3) := by decide +kernel
theorem dX12_goes_9 : decode cX12_goes 9 = .ok (.aload_n 0, 1) := by decide +kernel
theorem dX12_goes_10 : decode cX12_goes 10 = .ok (.getfield 121, 3) := by decide +kernel
theorem dX12_goes_13 : decode cX12_goes 13 = .ok (.if_icmp .ne 24, 3) := by decide +kernel
theorem dX12_goes_16 : decode cX12_goes 16 = .ok (.aload_n 0, 1) := by decide +kernel
theorem dX12_goes_17 : decode cX12_goes 17 = .ok (.getfield 70, 3) := by decide +kernel
theorem dX12_goes_20 : decode cX12_goes 20 = .ok (.iload_n 2, 1) := by decide +kernel
theorem dX12_goes_21 : decode cX12_goes 21 = .ok (.iaload, 1) := by decide +kernel
theorem dX12_goes_22 : decode cX12_goes 22 = .ok (.invokestatic 161, 3) := by decide +kernel
theorem dX12_goes_25 : decode cX12_goes 25 = .ok (.aload_n 0, 1) := by decide +kernel
theorem dX12_goes_26 : decode cX12_goes 26 = .ok (.getfield 121, 3) := by decide +kernel
theorem dX12_goes_29 : decode cX12_goes 29 = .ok (.if_icmp .eq 8, 3) := by decide +kernel
theorem dX12_goes_32 : decode cX12_goes 32 = .ok (.iload_n 1, 1) := by decide +kernel
theorem dX12_goes_33 : decode cX12_goes 33 = .ok (.iload_n 2, 1) := by decide +kernel
theorem dX12_goes_34 : decode cX12_goes 34 = .ok (.if_icmp .ne 5, 3) := by decide +kernel
theorem dX12_goes_37 : decode cX12_goes 37 = .ok (.iconst 0, 1) := by decide +kernel
theorem dX12_goes_38 : decode cX12_goes 38 = .ok (.ireturn, 1) := by decide +kernel
theorem dX12_goes_39 : decode cX12_goes 39 = .ok (.aload_n 0, 1) := by decide +kernel
theorem dX12_goes_40 : decode cX12_goes 40 = .ok (.getfield 70, 3) := by decide +kernel
theorem dX12_goes_43 : decode cX12_goes 43 = .ok (.iload_n 1, 1) := by decide +kernel
theorem dX12_goes_44 : decode cX12_goes 44 = .ok (.iaload, 1) := by decide +kernel
theorem dX12_goes_45 : decode cX12_goes 45 = .ok (.invokestatic 136, 3) := by decide +kernel
theorem dX12_goes_48 : decode cX12_goes 48 = .ok (.istore_n 3, 1) := by decide +kernel
theorem dX12_goes_49 : decode cX12_goes 49 = .ok (.iload_n 3, 1) := by decide +kernel
theorem dX12_goes_50 : decode cX12_goes 50 = .ok (.iconst 1, 1) := by decide +kernel
theorem dX12_goes_51 : decode cX12_goes 51 = .ok (.if_icmp .ne 10, 3) := by decide +kernel
theorem dX12_goes_54 : decode cX12_goes 54 = .ok (.aload_n 0, 1) := by decide +kernel
theorem dX12_goes_55 : decode cX12_goes 55 = .ok (.iload_n 1, 1) := by decide +kernel
theorem dX12_goes_56 : decode cX12_goes 56 = .ok (.iload_n 2, 1) := by decide +kernel
theorem dX12_goes_57 : decode cX12_goes 57 = .ok (.invokevirtual 164, 3) := by decide +kernel
theorem dX12_goes_60 : decode cX12_goes 60 = .ok (.ireturn, 1) := by decide +kernel
theorem dX12_goes_61 : decode cX12_goes 61 = .ok (.iload_n 2, 1) := by decide +kernel
theorem dX12_goes_62 : decode cX12_goes 62 = .ok (.bipush 8, 2) := by decide +kernel
theorem dX12_goes_64 : decode cX12_goes 64 = .ok (.irem, 1) := by decide +kernel
theorem dX12_goes_65 : decode cX12_goes 65 = .ok (.iload_n 1, 1) := by decide +kernel
theorem dX12_goes_66 : decode cX12_goes 66 = .ok (.bipush 8, 2) := by decide +kernel
theorem dX12_goes_68 : decode cX12_goes 68 = .ok (.irem, 1) := by decide +kernel
theorem dX12_goes_69 : decode cX12_goes 69 = .ok (.isub, 1) := by decide +kernel
theorem dX12_goes_70 : decode cX12_goes 70 = .ok (.istore 4, 2) := by decide +kernel
theorem dX12_goes_72 : decode cX12_goes 72 = .ok (.iload_n 2, 1) := by decide +kernel
theorem dX12_goes_73 : decode cX12_goes 73 = .ok (.bipush 8, 2) := by decide +kernel
theorem dX12_goes_75 : decode cX12_goes 75 = .ok (.idiv, 1) := by decide +kernel
theorem dX12_goes_76 : decode cX12_goes 76 = .ok (.iload_n 1, 1) := by decide +kernel
theorem dX12_goes_77 : decode cX12_goes 77 = .ok (.bipush 8, 2) := by decide +kernel
theorem dX12_goes_79 : decode cX12_goes 79 = .ok (.idiv, 1) := by decide +kernel
theorem dX12_goes_80 : decode cX12_goes 80 = .ok (.isub, 1) := by decide +kernel
theorem dX12_goes_81 : decode cX12_goes 81 = .ok (.istore 5, 2) := by decide +kernel
theorem dX12_goes_83 : decode cX12_goes 83 = .ok (.iload 4, 2) := by decide +kernel
theorem dX12_goes_85 : decode cX12_goes 85 = .ok (.iload 4, 2) := by decide +kernel
theorem dX12_goes_87 : decode cX12_goes 87 = .ok (.imul, 1) := by decide +kernel
theorem dX12_goes_88 : decode cX12_goes 88 = .ok (.iload 5, 2) := by decide +kernel
theorem dX12_goes_90 : decode cX12_goes 90 = .ok (.iload 5, 2) := by decide +kernel
theorem dX12_goes_92 : decode cX12_goes 92 = .ok (.imul, 1) := by decide +kernel
theorem dX12_goes_93 : decode cX12_goes 93 = .ok (.iadd, 1) := by decide +kernel
theorem dX12_goes_94 : decode cX12_goes 94 = .ok (.istore 6, 2) := by decide +kernel
theorem dX12_goes_96 : decode cX12_goes 96 = .ok (.iload_n 3, 1) := by decide +kernel
theorem dX12_goes_97 : decode cX12_goes 97 = .ok (.iconst 2, 1) := by decide +kernel
theorem dX12_goes_98 : decode cX12_goes 98 = .ok (.if_icmp .ne 15, 3) := by decide +kernel
theorem dX12_goes_101 : decode cX12_goes 101 = .ok (.iload 6, 2) := by decide +kernel
theorem dX12_goes_103 : decode cX12_goes 103 = .ok (.iconst 5, 1) := by decide +kernel
theorem dX12_goes_104 : decode cX12_goes 104 = .ok (.if_icmp .ne 7, 3) := by decide +kernel
theorem dX12_goes_107 : decode cX12_goes 107 = .ok (.iconst 1, 1) := by decide +kernel
theorem dX12_goes_108 : decode cX12_goes 108 = .ok (.goto 4, 3) := by decide +kernel
theorem dX12_goes_111 : decode cX12_goes 111 = .ok (.iconst 0, 1) := by decide +kernel
theorem dX12_goes_112 : decode cX12_goes 112 = .ok (.ireturn, 1) := by decide +kernel
theorem dX12_goes_113 : decode cX12_goes 113 = .ok (.iload_n 3, 1) := by decide +kernel
theorem dX12_goes_114 : decode cX12_goes 114 = .ok (.bipush 6, 2) := by decide +kernel
theorem dX12_goes_116 : decode cX12_goes 116 = .ok (.if_icmp .ne 47, 3) := by decide +kernel
theorem dX12_goes_119 : decode cX12_goes 119 = .ok (.iload 6, 2) := by decide +kernel
theorem dX12_goes_121 : decode cX12_goes 121 = .ok (.iconst 3, 1) := by decide +kernel
theorem dX12_goes_122 : decode cX12_goes 122 = .ok (.if_icmp .lt 35, 3) := by decide +kernel
theorem dX12_goes_125 : decode cX12_goes 125 = .ok (.iload_n 1, 1) := by decide +kernel
theorem dX12_goes_126 : decode cX12_goes 126 = .ok (.iconst 4, 1) := by decide +kernel
theorem dX12_goes_127 : decode cX12_goes 127 = .ok (.bipush 56, 2) := by decide +kernel
theorem dX12_goes_129 : decode cX12_goes 129 = .ok (.aload_n 0, 1) := by decide +kernel
theorem dX12_goes_130 : decode cX12_goes 130 = .ok (.getfield 121, 3) := by decide +kernel
theorem dX12_goes_133 : decode cX12_goes 133 = .ok (.imul, 1) := by decide +kernel
theorem dX12_goes_134 : decode cX12_goes 134 = .ok (.iadd, 1) := by decide +kernel
theorem dX12_goes_135 : decode cX12_goes 135 = .ok (.if_icmp .ne 26, 3) := by decide +kernel
theorem dX12_goes_138 : decode cX12_goes 138 = .ok (.iload 5, 2) := by decide +kernel
theorem dX12_goes_140 : decode cX12_goes 140 = .ok (.ifCond .ne 21, 3) := by decide +kernel
theorem dX12_goes_143 : decode cX12_goes 143 = .ok (.iload 6, 2) := by decide +kernel
theorem dX12_goes_145 : decode cX12_goes 145 = .ok (.iconst 4, 1) := by decide +kernel
theorem dX12_goes_146 : decode cX12_goes 146 = .ok (.if_icmp .ne 15, 3) := by decide +kernel
theorem dX12_goes_149 : decode cX12_goes 149 = .ok (.aload_n 0, 1) := by decide +kernel
theorem dX12_goes_150 : decode cX12_goes 150 = .ok (.iload_n 2, 1) := by decide +kernel
theorem dX12_goes_151 : decode cX12_goes 151 = .ok (.invokevirtual 167, 3) := by decide +kernel
theorem dX12_goes_154 : decode cX12_goes 154 = .ok (.ifCond .eq 7, 3) := by decide +kernel
theorem dX12_goes_157 : decode cX12_goes 157 = .ok (.iconst 1, 1) := by decide +kernel
theorem dX12_goes_158 : decode cX12_goes 158 = .ok (.goto 4, 3) := by decide +kernel
theorem dX12_goes_161 : decode cX12_goes 161 = .ok (.iconst 0, 1) := by decide +kernel
theorem dX12_goes_162 : decode cX12_goes 162 = .ok (.ireturn, 1) := by decide +kernel
theorem dX12_goes_163 : decode cX12_goes 163 = .ok (.iload 4, 2) := by decide +kernel
theorem dX12_goes_165 : decode cX12_goes 165 = .ok (.ifCond .eq 8, 3) := by decide +kernel
theorem dX12_goes_168 : decode cX12_goes 168 = .ok (.iload 5, 2) := by decide +kernel
theorem dX12_goes_170 : decode cX12_goes 170 = .ok (.ifCond .ne 7, 3) := by decide +kernel
theorem dX12_goes_173 : decode cX12_goes 173 = .ok (.iconst 1, 1) := by decide +kernel
theorem dX12_goes_174 : decode cX12_goes 174 = .ok (.goto 4, 3) := by decide +kernel
theorem dX12_goes_177 : decode cX12_goes 177 = .ok (.iconst 0, 1) := by decide +kernel
theorem dX12_goes_178 : decode cX12_goes 178 = .ok (.istore 7, 2) := by decide +kernel
theorem dX12_goes_180 : decode cX12_goes 180 = .ok (.iload 7, 2) := by decide +kernel
theorem dX12_goes_182 : decode cX12_goes 182 = .ok (.ifCond .ne 18, 3) := by decide +kernel
theorem dX12_goes_185 : decode cX12_goes 185 = .ok (.iload 4, 2) := by decide +kernel
theorem dX12_goes_187 : decode cX12_goes 187 = .ok (.iload 5, 2) := by decide +kernel
theorem dX12_goes_189 : decode cX12_goes 189 = .ok (.if_icmp .eq 11, 3) := by decide +kernel
theorem dX12_goes_192 : decode cX12_goes 192 = .ok (.iload 4, 2) := by decide +kernel
theorem dX12_goes_194 : decode cX12_goes 194 = .ok (.iload 5, 2) := by decide +kernel
theorem dX12_goes_196 : decode cX12_goes 196 = .ok (.ineg, 1) := by decide +kernel
theorem dX12_goes_197 : decode cX12_goes 197 = .ok (.if_icmp .ne 23, 3) := by decide +kernel
theorem dX12_goes_200 : decode cX12_goes 200 = .ok (.iload 7, 2) := by decide +kernel
theorem dX12_goes_202 : decode cX12_goes 202 = .ok (.ifCond .eq 8, 3) := by decide +kernel
theorem dX12_goes_205 : decode cX12_goes 205 = .ok (.iload_n 3, 1) := by decide +kernel
theorem dX12_goes_206 : decode cX12_goes 206 = .ok (.iconst 3, 1) := by decide +kernel
theorem dX12_goes_207 : decode cX12_goes 207 = .ok (.if_icmp .eq 13, 3) := by decide +kernel
theorem dX12_goes_210 : decode cX12_goes 210 = .ok (.iload 7, 2) := by decide +kernel
theorem dX12_goes_212 : decode cX12_goes 212 = .ok (.ifCond .ne 10, 3) := by decide +kernel
theorem dX12_goes_215 : decode cX12_goes 215 = .ok (.iload_n 3, 1) := by decide +kernel
theorem dX12_goes_216 : decode cX12_goes 216 = .ok (.iconst 4, 1) := by decide +kernel
theorem dX12_goes_217 : decode cX12_goes 217 = .ok (.if_icmp .ne 5, 3) := by decide +kernel
theorem dX12_goes_220 : decode cX12_goes 220 = .ok (.iconst 0, 1) := by decide +kernel
theorem dX12_goes_221 : decode cX12_goes 221 = .ok (.ireturn, 1) := by decide +kernel
theorem dX12_goes_222 : decode cX12_goes 222 = .ok (.iload 4, 2) := by decide +kernel
theorem dX12_goes_224 : decode cX12_goes 224 = .ok (.ifCond .le 7, 3) := by decide +kernel
theorem dX12_goes_227 : decode cX12_goes 227 = .ok (.iconst 1, 1) := by decide +kernel
theorem dX12_goes_228 : decode cX12_goes 228 = .ok (.goto 13, 3) := by decide +kernel
theorem dX12_goes_231 : decode cX12_goes 231 = .ok (.iload 4, 2) := by decide +kernel
theorem dX12_goes_233 : decode cX12_goes 233 = .ok (.ifCond .ge 7, 3) := by decide +kernel
theorem dX12_goes_236 : decode cX12_goes 236 = .ok (.iconst (-1), 1) := by decide +kernel
theorem dX12_goes_237 : decode cX12_goes 237 = .ok (.goto 4, 3) := by decide +kernel
theorem dX12_goes_240 : decode cX12_goes 240 = .ok (.iconst 0, 1) := by decide +kernel
theorem dX12_goes_241 : decode cX12_goes 241 = .ok (.istore 8, 2) := by decide +kernel
theorem dX12_goes_243 : decode cX12_goes 243 = .ok (.iload 5, 2) := by decide +kernel
theorem dX12_goes_245 : decode cX12_goes 245 = .ok (.ifCond .le 7, 3) := by decide +kernel
theorem dX12_goes_248 : decode cX12_goes 248 = .ok (.iconst 1, 1) := by decide +kernel
theorem dX12_goes_249 : decode cX12_goes 249 = .ok (.goto 13, 3) := by decide +kernel
theorem dX12_goes_252 : decode cX12_goes 252 = .ok (.iload 5, 2) := by decide +kernel
theorem dX12_goes_254 : decode cX12_goes 254 = .ok (.ifCond .ge 7, 3) := by decide +kernel
theorem dX12_goes_257 : decode cX12_goes 257 = .ok (.iconst (-1), 1) := by decide +kernel
theorem dX12_goes_258 : decode cX12_goes 258 = .ok (.goto 4, 3) := by decide +kernel
theorem dX12_goes_261 : decode cX12_goes 261 = .ok (.iconst 0, 1) := by decide +kernel
theorem dX12_goes_262 : decode cX12_goes 262 = .ok (.istore 9, 2) := by decide +kernel
theorem dX12_goes_264 : decode cX12_goes 264 = .ok (.iload_n 1, 1) := by decide +kernel
theorem dX12_goes_265 : decode cX12_goes 265 = .ok (.iload 8, 2) := by decide +kernel
theorem dX12_goes_267 : decode cX12_goes 267 = .ok (.iload 9, 2) := by decide +kernel
theorem dX12_goes_269 : decode cX12_goes 269 = .ok (.invokestatic 103, 3) := by decide +kernel
theorem dX12_goes_272 : decode cX12_goes 272 = .ok (.istore 10, 2) := by decide +kernel
theorem dX12_goes_274 : decode cX12_goes 274 = .ok (.iload 10, 2) := by decide +kernel
theorem dX12_goes_276 : decode cX12_goes 276 = .ok (.iload_n 2, 1) := by decide +kernel
theorem dX12_goes_277 : decode cX12_goes 277 = .ok (.if_icmp .eq 27, 3) := by decide +kernel
theorem dX12_goes_280 : decode cX12_goes 280 = .ok (.aload_n 0, 1) := by decide +kernel
theorem dX12_goes_281 : decode cX12_goes 281 = .ok (.getfield 70, 3) := by decide +kernel
theorem dX12_goes_284 : decode cX12_goes 284 = .ok (.iload 10, 2) := by decide +kernel
theorem dX12_goes_286 : decode cX12_goes 286 = .ok (.iaload, 1) := by decide +kernel
theorem dX12_goes_287 : decode cX12_goes 287 = .ok (.ifCond .ne 17, 3) := by decide +kernel
theorem dX12_goes_290 : decode cX12_goes 290 = .ok (.iload 10, 2) := by decide +kernel
theorem dX12_goes_292 : decode cX12_goes 292 = .ok (.iload 8, 2) := by decide +kernel
theorem dX12_goes_294 : decode cX12_goes 294 = .ok (.iload 9, 2) := by decide +kernel
theorem dX12_goes_296 : decode cX12_goes 296 = .ok (.invokestatic 103, 3) := by decide +kernel
theorem dX12_goes_299 : decode cX12_goes 299 = .ok (.istore 10, 2) := by decide +kernel
theorem dX12_goes_301 : decode cX12_goes 301 = .ok (.goto (-27), 3) := by decide +kernel
theorem dX12_goes_304 : decode cX12_goes 304 = .ok (.iload 10, 2) := by decide +kernel
theorem dX12_goes_306 : decode cX12_goes 306 = .ok (.iload_n 2, 1) := by decide +kernel
theorem dX12_goes_307 : decode cX12_goes 307 = .ok (.if_icmp .ne 7, 3) := by decide +kernel
theorem dX12_goes_310 : decode cX12_goes 310 = .ok (.iconst 1, 1) := by decide +kernel
theorem dX12_goes_311 : decode cX12_goes 311 = .ok (.goto 4, 3) := by decide +kernel
theorem dX12_goes_314 : decode cX12_goes 314 = .ok (.iconst 0, 1) := by decide +kernel
theorem dX12_goes_315 : decode cX12_goes 315 = .ok (.ireturn, 1) := by decide +kernel
theorem dX12_findMoves_0 : decode cX12_findMoves 0 = .ok (.aload_n 0, 1) := by decide +kernel
theorem dX12_findMoves_1 : decode cX12_findMoves 1 = .ok (.iconst 0, 1) := by decide +kernel
theorem dX12_findMoves_2 : decode cX12_findMoves 2 = .ok (.putfield 170, 3) := by decide +kernel
theorem dX12_findMoves_5 : decode cX12_findMoves 5 = .ok (.iconst 0, 1) := by decide +kernel
theorem dX12_findMoves_6 : decode cX12_findMoves 6 = .ok (.istore_n 1, 1) := by decide +kernel
theorem dX12_findMoves_7 : decode cX12_findMoves 7 = .ok (.iload_n 1, 1) := by decide +kernel
theorem dX12_findMoves_8 : decode cX12_findMoves 8 = .ok (.bipush 64, 2) := by decide +kernel
theorem dX12_findMoves_10 : decode cX12_findMoves 10 = .ok (.if_icmp .ge 159, 3) := by decide +kernel
theorem dX12_findMoves_13 : decode cX12_findMoves 13 = .ok (.iconst 0, 1) := by decide +kernel
theorem dX12_findMoves_14 : decode cX12_findMoves 14 = .ok (.istore_n 2, 1) := by decide +kernel
theorem dX12_findMoves_15 : decode cX12_findMoves 15 = .ok (.iload_n 2, 1) := by decide +kernel
theorem dX12_findMoves_16 : decode cX12_findMoves 16 = .ok (.bipush 64, 2) := by decide +kernel
theorem dX12_findMoves_18 : decode cX12_findMoves 18 = .ok (.if_icmp .ge 145, 3) := by decide +kernel
theorem dX12_findMoves_21 : decode cX12_findMoves 21 = .ok (.aload_n 0, 1) := by decide +kernel
theorem dX12_findMoves_22 : decode cX12_findMoves 22 = .ok (.getfield 70, 3) := by decide +kernel
theorem dX12_findMoves_25 : decode cX12_findMoves 25 = .ok (.iload_n 1, 1) := by decide +kernel
theorem dX12_findMoves_26 : decode cX12_findMoves 26 = .ok (.iaload, 1) := by decide +kernel
theorem dX12_findMoves_27 : decode cX12_findMoves 27 = .ok (.invokestatic 161, 3) := by decide +kernel
theorem dX12_findMoves_30 : decode cX12_findMoves 30 = .ok (.aload_n 0, 1) := by decide +kernel
theorem dX12_findMoves_31 : decode cX12_findMoves 31 = .ok (.getfield 121, 3) := by decide +kernel
theorem dX12_findMoves_34 : decode cX12_findMoves 34 = .ok (.if_icmp .ne 129, 3) := by decide +kernel
theorem dX12_findMoves_37 : decode cX12_findMoves 37 = .ok (.aload_n 0, 1) := by decide +kernel
theorem dX12_findMoves_38 : decode cX12_findMoves 38 = .ok (.iload_n 1, 1) := by decide +kernel
theorem dX12_findMoves_39 : decode cX12_findMoves 39 = .ok (.iload_n 2, 1) := by decide +kernel
theorem dX12_findMoves_40 : decode cX12_findMoves 40 = .ok (.invokevirtual 173, 3) := by decide +kernel
theorem dX12_findMoves_43 : decode cX12_findMoves 43 = .ok (.ifCond .eq 114, 3) := by decide +kernel
theorem dX12_findMoves_46 : decode cX12_findMoves 46 = .ok (.aload_n 0, 1) := by decide +kernel
theorem dX12_findMoves_47 : decode cX12_findMoves 47 = .ok (.getfield 70, 3) := by decide +kernel
theorem dX12_findMoves_50 : decode cX12_findMoves 50 = .ok (.iload_n 1, 1) := by decide +kernel
theorem dX12_findMoves_51 : decode cX12_findMoves 51 = .ok (.iaload, 1) := by decide +kernel
theorem dX12_findMoves_52 : decode cX12_findMoves 52 = .ok (.invokestatic 136, 3) := by decide +kernel
theorem dX12_findMoves_55 : decode cX12_findMoves 55 = .ok (.iconst 1, 1) := by decide +kernel
theorem dX12_findMoves_56 : decode cX12_findMoves 56 = .ok (.if_icmp .ne 19, 3) := by decide +kernel
theorem dX12_findMoves_59 : decode cX12_findMoves 59 = .ok (.iload_n 2, 1) := by decide +kernel
theorem dX12_findMoves_60 : decode cX12_findMoves 60 = .ok (.bipush 8, 2) := by decide +kernel
theorem dX12_findMoves_62 : decode cX12_findMoves 62 = .ok (.if_icmp .lt 9, 3) := by decide +kernel
theorem dX12_findMoves_65 : decode cX12_findMoves 65 = .ok (.iload_n 2, 1) := by decide +kernel
theorem dX12_findMoves_66 : decode cX12_findMoves 66 = .ok (.bipush 55, 2) := by decide +kernel
theorem dX12_findMoves_68 : decode cX12_findMoves 68 = .ok (.if_icmp .le 7, 3) := by decide +kernel
theorem dX12_findMoves_71 : decode cX12_findMoves 71 = .ok (.iconst 1, 1) := by decide +kernel
theorem dX12_findMoves_72 : decode cX12_findMoves 72 = .ok (.goto 4, 3) := by decide +kernel
theorem dX12_findMoves_75 : decode cX12_findMoves 75 = .ok (.iconst 0, 1) := by decide +kernel
theorem dX12_findMoves_76 : decode cX12_findMoves 76 = .ok (.istore_n 3, 1) := by decide +kernel
theorem dX12_findMoves_77 : decode cX12_findMoves 77 = .ok (.aload_n 0, 1) := by decide +kernel
theorem dX12_findMoves_78 : decode cX12_findMoves 78 = .ok (.iload_n 1, 1) := by decide +kernel
theorem dX12_findMoves_79 : decode cX12_findMoves 79 = .ok (.bipush 64, 2) := by decide +kernel
theorem dX12_findMoves_81 : decode cX12_findMoves 81 = .ok (.iload_n 2, 1) := by decide +kernel
theorem dX12_findMoves_82 : decode cX12_findMoves 82 = .ok (.imul, 1) := by decide +kernel
theorem dX12_findMoves_83 : decode cX12_findMoves 83 = .ok (.iadd, 1) := by decide +kernel
theorem dX12_findMoves_84 : decode cX12_findMoves 84 = .ok (.invokevirtual 176, 3) := by decide +kernel
theorem dX12_findMoves_87 : decode cX12_findMoves 87 = .ok (.istore 4, 2) := by decide +kernel
theorem dX12_findMoves_89 : decode cX12_findMoves 89 = .ok (.iload_n 3, 1) := by decide +kernel
theorem dX12_findMoves_90 : decode cX12_findMoves 90 = .ok (.ifCond .eq 7, 3) := by decide +kernel
theorem dX12_findMoves_93 : decode cX12_findMoves 93 = .ok (.iconst 2, 1) := by decide +kernel
theorem dX12_findMoves_94 : decode cX12_findMoves 94 = .ok (.goto 4, 3) := by decide +kernel
theorem dX12_findMoves_97 : decode cX12_findMoves 97 = .ok (.iconst 0, 1) := by decide +kernel
theorem dX12_findMoves_98 : decode cX12_findMoves 98 = .ok (.istore 5, 2) := by decide +kernel
theorem dX12_findMoves_100 : decode cX12_findMoves 100 = .ok (.iload 4, 2) := by decide +kernel
theorem dX12_findMoves_102 : decode cX12_findMoves 102 = .ok (.ifCond .eq 55, 3) := by decide +kernel
theorem dX12_findMoves_105 : decode cX12_findMoves 105 = .ok (.iload 5, 2) := by decide +kernel
theorem dX12_findMoves_107 : decode cX12_findMoves 107 = .ok (.iload_n 3, 1) := by decide +kernel
theorem dX12_findMoves_108 : decode cX12_findMoves 108 = .ok (.ifCond .eq 7, 3) := by decide +kernel
theorem dX12_findMoves_111 : decode cX12_findMoves 111 = .ok (.iconst 5, 1) := by decide +kernel
theorem dX12_findMoves_112 : decode cX12_findMoves 112 = .ok (.goto 4, 3) := by decide +kernel
theorem dX12_findMoves_115 : decode cX12_findMoves 115 = .ok (.iconst 0, 1) := by decide +kernel
theorem dX12_findMoves_116 : decode cX12_findMoves 116 = .ok (.if_icmp .gt 41, 3) := by decide +kernel
theorem dX12_findMoves_119 : decode cX12_findMoves 119 = .ok (.aload_n 0, 1) := by decide +kernel
theorem dX12_findMoves_120 : decode cX12_findMoves 120 = .ok (.getfield 79, 3) := by decide +kernel
theorem dX12_findMoves_123 : decode cX12_findMoves 123 = .ok (.aload_n 0, 1) := by decide +kernel
theorem dX12_findMoves_124 : decode cX12_findMoves 124 = .ok (.getfield 170, 3) := by decide +kernel
theorem dX12_findMoves_127 : decode cX12_findMoves 127 = .ok (.iload_n 1, 1) := by decide +kernel
theorem dX12_findMoves_128 : decode cX12_findMoves 128 = .ok (.bipush 64, 2) := by decide +kernel
theorem dX12_findMoves_130 : decode cX12_findMoves 130 = .ok (.iload_n 2, 1) := by decide +kernel
theorem dX12_findMoves_131 : decode cX12_findMoves 131 = .ok (.imul, 1) := by decide +kernel
theorem dX12_findMoves_132 : decode cX12_findMoves 132 = .ok (.iadd, 1) := by decide +kernel
theorem dX12_findMoves_133 : decode cX12_findMoves 133 = .ok (.sipush 4096, 3) := by decide +kernel
theorem dX12_findMoves_136 : decode cX12_findMoves 136 = .ok (.iload 5, 2) := by decide +kernel
theorem dX12_findMoves_138 : decode cX12_findMoves 138 = .ok (.imul, 1) := by decide +kernel
theorem dX12_findMoves_139 : decode cX12_findMoves 139 = .ok (.iadd, 1) := by decide +kernel
theorem dX12_findMoves_140 : decode cX12_findMoves 140 = .ok (.iastore, 1) := by decide +kernel
theorem dX12_findMoves_141 : decode cX12_findMoves 141 = .ok (.aload_n 0, 1) := by decide +kernel
theorem dX12_findMoves_142 : decode cX12_findMoves 142 = .ok (.dup, 1) := by decide +kernel
theorem dX12_findMoves_143 : decode cX12_findMoves 143 = .ok (.getfield 170, 3) := by decide +kernel
theorem dX12_findMoves_146 : decode cX12_findMoves 146 = .ok (.iconst 1, 1) := by decide +kernel
theorem dX12_findMoves_147 : decode cX12_findMoves 147 = .ok (.iadd, 1) := by decide +kernel
theorem dX12_findMoves_148 : decode cX12_findMoves 148 = .ok (.putfield 170, 3) := by decide +kernel
theorem dX12_findMoves_151 : decode cX12_findMoves 151 = .ok (.iinc 5 1, 3) := by decide +kernel
theorem dX12_findMoves_154 : decode cX12_findMoves 154 = .ok (.goto (-54), 3) := by decide +kernel
theorem dX12_findMoves_157 : decode cX12_findMoves 157 = .ok (.iinc 2 1, 3) := by decide +kernel
theorem dX12_findMoves_160 : decode cX12_findMoves 160 = .ok (.goto (-145), 3) := by decide +kernel
theorem dX12_findMoves_163 : decode cX12_findMoves 163 = .ok (.iinc 1 1, 3) := by decide +kernel
theorem dX12_findMoves_166 : decode cX12_findMoves 166 = .ok (.goto (-159), 3) := by decide +kernel
theorem dX12_findMoves_169 : decode cX12_findMoves 169 = .ok (.return_, 1) := by decide +kernel
theorem dX12_clearGame_0 : decode cX12_clearGame 0 = .ok (.aload_n 0, 1) := by decide +kernel
theorem dX12_clearGame_1 : decode cX12_clearGame 1 = .ok (.getfield 17, 3) := by decide +kernel
theorem dX12_clearGame_4 : decode cX12_clearGame 4 = .ok (.iload_n 1, 1) := by decide +kernel
theorem dX12_clearGame_5 : decode cX12_clearGame 5 = .ok (.iconst 0, 1) := by decide +kernel
theorem dX12_clearGame_6 : decode cX12_clearGame 6 = .ok (.iastore, 1) := by decide +kernel
theorem dX12_clearGame_7 : decode cX12_clearGame 7 = .ok (.aload_n 0, 1) := by decide +kernel
theorem dX12_clearGame_8 : decode cX12_clearGame 8 = .ok (.getfield 52, 3) := by decide +kernel
theorem dX12_clearGame_11 : decode cX12_clearGame 11 = .ok (.iload_n 1, 1) := by decide +kernel
theorem dX12_clearGame_12 : decode cX12_clearGame 12 = .ok (.iconst 0, 1) := by decide +kernel
theorem dX12_clearGame_13 : decode cX12_clearGame 13 = .ok (.iastore, 1) := by decide +kernel
theorem dX12_clearGame_14 : decode cX12_clearGame 14 = .ok (.aload_n 0, 1) := by decide +kernel
theorem dX12_clearGame_15 : decode cX12_clearGame 15 = .ok (.getfield 67, 3) := by decide +kernel
theorem dX12_clearGame_18 : decode cX12_clearGame 18 = .ok (.iload_n 1, 1) := by decide +kernel
theorem dX12_clearGame_19 : decode cX12_clearGame 19 = .ok (.iconst 0, 1) := by decide +kernel
theorem dX12_clearGame_20 : decode cX12_clearGame 20 = .ok (.iastore, 1) := by decide +kernel
theorem dX12_clearGame_21 : decode cX12_clearGame 21 = .ok (.aload_n 0, 1) := by decide +kernel
theorem dX12_clearGame_22 : decode cX12_clearGame 22 = .ok (.sipush 301, 3) := by decide +kernel
theorem dX12_clearGame_25 : decode cX12_clearGame 25 = .ok (.iload_n 1, 1) := by decide +kernel
theorem dX12_clearGame_26 : decode cX12_clearGame 26 = .ok (.imul, 1) := by decide +kernel
theorem dX12_clearGame_27 : decode cX12_clearGame 27 = .ok (.invokevirtual 179, 3) := by decide +kernel
theorem dX12_clearGame_30 : decode cX12_clearGame 30 = .ok (.aload_n 0, 1) := by decide +kernel
theorem dX12_clearGame_31 : decode cX12_clearGame 31 = .ok (.getfield 21, 3) := by decide +kernel
theorem dX12_clearGame_34 : decode cX12_clearGame 34 = .ok (.sipush 301, 3) := by decide +kernel
theorem dX12_clearGame_37 : decode cX12_clearGame 37 = .ok (.iload_n 1, 1) := by decide +kernel
theorem dX12_clearGame_38 : decode cX12_clearGame 38 = .ok (.imul, 1) := by decide +kernel
theorem dX12_clearGame_39 : decode cX12_clearGame 39 = .ok (.iconst (-1), 1) := by decide +kernel
theorem dX12_clearGame_40 : decode cX12_clearGame 40 = .ok (.iastore, 1) := by decide +kernel
theorem dX12_clearGame_41 : decode cX12_clearGame 41 = .ok (.aload_n 0, 1) := by decide +kernel
theorem dX12_clearGame_42 : decode cX12_clearGame 42 = .ok (.getfield 24, 3) := by decide +kernel
theorem dX12_clearGame_45 : decode cX12_clearGame 45 = .ok (.sipush 301, 3) := by decide +kernel
theorem dX12_clearGame_48 : decode cX12_clearGame 48 = .ok (.iload_n 1, 1) := by decide +kernel
theorem dX12_clearGame_49 : decode cX12_clearGame 49 = .ok (.imul, 1) := by decide +kernel
theorem dX12_clearGame_50 : decode cX12_clearGame 50 = .ok (.iconst (-1), 1) := by decide +kernel
theorem dX12_clearGame_51 : decode cX12_clearGame 51 = .ok (.iastore, 1) := by decide +kernel
theorem dX12_clearGame_52 : decode cX12_clearGame 52 = .ok (.return_, 1) := by decide +kernel
theorem dX12_clearNode_0 : decode cX12_clearNode 0 = .ok (.aload_n 0, 1) := by decide +kernel
theorem dX12_clearNode_1 : decode cX12_clearNode 1 = .ok (.getfield 27, 3) := by decide +kernel
theorem dX12_clearNode_4 : decode cX12_clearNode 4 = .ok (.iload_n 1, 1) := by decide +kernel
theorem dX12_clearNode_5 : decode cX12_clearNode 5 = .ok (.iconst (-1), 1) := by decide +kernel
theorem dX12_clearNode_6 : decode cX12_clearNode 6 = .ok (.iastore, 1) := by decide +kernel
theorem dX12_clearNode_7 : decode cX12_clearNode 7 = .ok (.aload_n 0, 1) := by decide +kernel
theorem dX12_clearNode_8 : decode cX12_clearNode 8 = .ok (.getfield 30, 3) := by decide +kernel
theorem dX12_clearNode_11 : decode cX12_clearNode 11 = .ok (.iload_n 1, 1) := by decide +kernel
theorem dX12_clearNode_12 : decode cX12_clearNode 12 = .ok (.iconst (-1), 1) := by decide +kernel
theorem dX12_clearNode_13 : decode cX12_clearNode 13 = .ok (.iastore, 1) := by decide +kernel
theorem dX12_clearNode_14 : decode cX12_clearNode 14 = .ok (.aload_n 0, 1) := by decide +kernel
theorem dX12_clearNode_15 : decode cX12_clearNode 15 = .ok (.getfield 33, 3) := by decide +kernel
theorem dX12_clearNode_18 : decode cX12_clearNode 18 = .ok (.iload_n 1, 1) := by decide +kernel
theorem dX12_clearNode_19 : decode cX12_clearNode 19 = .ok (.iconst 0, 1) := by decide +kernel
theorem dX12_clearNode_20 : decode cX12_clearNode 20 = .ok (.iastore, 1) := by decide +kernel
theorem dX12_clearNode_21 : decode cX12_clearNode 21 = .ok (.aload_n 0, 1) := by decide +kernel
theorem dX12_clearNode_22 : decode cX12_clearNode 22 = .ok (.getfield 39, 3) := by decide +kernel
theorem dX12_clearNode_25 : decode cX12_clearNode 25 = .ok (.iload_n 1, 1) := by decide +kernel
theorem dX12_clearNode_26 : decode cX12_clearNode 26 = .ok (.iconst 0, 1) := by decide +kernel
theorem dX12_clearNode_27 : decode cX12_clearNode 27 = .ok (.iastore, 1) := by decide +kernel
theorem dX12_clearNode_28 : decode cX12_clearNode 28 = .ok (.return_, 1) := by decide +kernel
theorem dX12_usual_0 : decode cX12_usual 0 = .ok (.iconst 0, 1) := by decide +kernel
theorem dX12_usual_1 : decode cX12_usual 1 = .ok (.istore_n 2, 1) := by decide +kernel
theorem dX12_usual_2 : decode cX12_usual 2 = .ok (.iload_n 2, 1) := by decide +kernel
theorem dX12_usual_3 : decode cX12_usual 3 = .ok (.bipush 64, 2) := by decide +kernel
theorem dX12_usual_5 : decode cX12_usual 5 = .ok (.if_icmp .ge 16, 3) := by decide +kernel
theorem dX12_usual_8 : decode cX12_usual 8 = .ok (.aload_n 0, 1) := by decide +kernel
theorem dX12_usual_9 : decode cX12_usual 9 = .ok (.getfield 70, 3) := by decide +kernel
theorem dX12_usual_12 : decode cX12_usual 12 = .ok (.iload_n 2, 1) := by decide +kernel
theorem dX12_usual_13 : decode cX12_usual 13 = .ok (.iconst 0, 1) := by decide +kernel
theorem dX12_usual_14 : decode cX12_usual 14 = .ok (.iastore, 1) := by decide +kernel
theorem dX12_usual_15 : decode cX12_usual 15 = .ok (.iinc 2 1, 3) := by decide +kernel
theorem dX12_usual_18 : decode cX12_usual 18 = .ok (.goto (-16), 3) := by decide +kernel
theorem dX12_usual_21 : decode cX12_usual 21 = .ok (.iconst 0, 1) := by decide +kernel
theorem dX12_usual_22 : decode cX12_usual 22 = .ok (.istore_n 2, 1) := by decide +kernel
theorem dX12_usual_23 : decode cX12_usual 23 = .ok (.iload_n 2, 1) := by decide +kernel
theorem dX12_usual_24 : decode cX12_usual 24 = .ok (.bipush 8, 2) := by decide +kernel
theorem dX12_usual_26 : decode cX12_usual 26 = .ok (.if_icmp .ge 105, 3) := by decide +kernel
theorem dX12_usual_29 : decode cX12_usual 29 = .ok (.iload_n 2, 1) := by decide +kernel
theorem dX12_usual_30 : decode cX12_usual 30 = .ok (.ifCond .eq 9, 3) := by decide +kernel
theorem dX12_usual_33 : decode cX12_usual 33 = .ok (.iload_n 2, 1) := by decide +kernel
theorem dX12_usual_34 : decode cX12_usual 34 = .ok (.bipush 7, 2) := by decide +kernel
theorem dX12_usual_36 : decode cX12_usual 36 = .ok (.if_icmp .ne 7, 3) := by decide +kernel
theorem dX12_usual_39 : decode cX12_usual 39 = .ok (.iconst 4, 1) := by decide +kernel
theorem dX12_usual_40 : decode cX12_usual 40 = .ok (.goto 43, 3) := by decide +kernel
theorem dX12_usual_43 : decode cX12_usual 43 = .ok (.iload_n 2, 1) := by decide +kernel
theorem dX12_usual_44 : decode cX12_usual 44 = .ok (.iconst 1, 1) := by decide +kernel
theorem dX12_usual_45 : decode cX12_usual 45 = .ok (.if_icmp .eq 9, 3) := by decide +kernel
theorem dX12_usual_48 : decode cX12_usual 48 = .ok (.iload_n 2, 1) := by decide +kernel
theorem dX12_usual_49 : decode cX12_usual 49 = .ok (.bipush 6, 2) := by decide +kernel
theorem dX12_usual_51 : decode cX12_usual 51 = .ok (.if_icmp .ne 7, 3) := by decide +kernel
theorem dX12_usual_54 : decode cX12_usual 54 = .ok (.iconst 2, 1) := by decide +kernel
theorem dX12_usual_55 : decode cX12_usual 55 = .ok (.goto 28, 3) := by decide +kernel
theorem dX12_usual_58 : decode cX12_usual 58 = .ok (.iload_n 2, 1) := by decide +kernel
theorem dX12_usual_59 : decode cX12_usual 59 = .ok (.iconst 2, 1) := by decide +kernel
theorem dX12_usual_60 : decode cX12_usual 60 = .ok (.if_icmp .eq 8, 3) := by decide +kernel
theorem dX12_usual_63 : decode cX12_usual 63 = .ok (.iload_n 2, 1) := by decide +kernel
theorem dX12_usual_64 : decode cX12_usual 64 = .ok (.iconst 5, 1) := by decide +kernel
theorem dX12_usual_65 : decode cX12_usual 65 = .ok (.if_icmp .ne 7, 3) := by decide +kernel
theorem dX12_usual_68 : decode cX12_usual 68 = .ok (.iconst 3, 1) := by decide +kernel
theorem dX12_usual_69 : decode cX12_usual 69 = .ok (.goto 14, 3) := by decide +kernel
theorem dX12_usual_72 : decode cX12_usual 72 = .ok (.iload_n 2, 1) := by decide +kernel
theorem dX12_usual_73 : decode cX12_usual 73 = .ok (.iconst 3, 1) := by decide +kernel
theorem dX12_usual_74 : decode cX12_usual 74 = .ok (.if_icmp .ne 7, 3) := by decide +kernel
theorem dX12_usual_77 : decode cX12_usual 77 = .ok (.iconst 5, 1) := by decide +kernel
theorem dX12_usual_78 : decode cX12_usual 78 = .ok (.goto 5, 3) := by decide +kernel
theorem dX12_usual_81 : decode cX12_usual 81 = .ok (.bipush 6, 2) := by decide +kernel
theorem dX12_usual_83 : decode cX12_usual 83 = .ok (.istore_n 3, 1) := by decide +kernel
theorem dX12_usual_84 : decode cX12_usual 84 = .ok (.aload_n 0, 1) := by decide +kernel
theorem dX12_usual_85 : decode cX12_usual 85 = .ok (.getfield 70, 3) := by decide +kernel
theorem dX12_usual_88 : decode cX12_usual 88 = .ok (.iload_n 2, 1) := by decide +kernel
theorem dX12_usual_89 : decode cX12_usual 89 = .ok (.iload_n 3, 1) := by decide +kernel
theorem dX12_usual_90 : decode cX12_usual 90 = .ok (.iastore, 1) := by decide +kernel
theorem dX12_usual_91 : decode cX12_usual 91 = .ok (.aload_n 0, 1) := by decide +kernel
theorem dX12_usual_92 : decode cX12_usual 92 = .ok (.getfield 70, 3) := by decide +kernel
theorem dX12_usual_95 : decode cX12_usual 95 = .ok (.bipush 8, 2) := by decide +kernel
theorem dX12_usual_97 : decode cX12_usual 97 = .ok (.iload_n 2, 1) := by decide +kernel
theorem dX12_usual_98 : decode cX12_usual 98 = .ok (.iadd, 1) := by decide +kernel
theorem dX12_usual_99 : decode cX12_usual 99 = .ok (.iconst 1, 1) := by decide +kernel
theorem dX12_usual_100 : decode cX12_usual 100 = .ok (.iastore, 1) := by decide +kernel
theorem dX12_usual_101 : decode cX12_usual 101 = .ok (.aload_n 0, 1) := by decide +kernel
theorem dX12_usual_102 : decode cX12_usual 102 = .ok (.getfield 70, 3) := by decide +kernel
theorem dX12_usual_105 : decode cX12_usual 105 = .ok (.bipush 48, 2) := by decide +kernel
theorem dX12_usual_107 : decode cX12_usual 107 = .ok (.iload_n 2, 1) := by decide +kernel
theorem dX12_usual_108 : decode cX12_usual 108 = .ok (.iadd, 1) := by decide +kernel
theorem dX12_usual_109 : decode cX12_usual 109 = .ok (.bipush 9, 2) := by decide +kernel
theorem dX12_usual_111 : decode cX12_usual 111 = .ok (.iastore, 1) := by decide +kernel
theorem dX12_usual_112 : decode cX12_usual 112 = .ok (.aload_n 0, 1) := by decide +kernel
theorem dX12_usual_113 : decode cX12_usual 113 = .ok (.getfield 70, 3) := by decide +kernel
theorem dX12_usual_116 : decode cX12_usual 116 = .ok (.bipush 56, 2) := by decide +kernel
theorem dX12_usual_118 : decode cX12_usual 118 = .ok (.iload_n 2, 1) := by decide +kernel
theorem dX12_usual_119 : decode cX12_usual 119 = .ok (.iadd, 1) := by decide +kernel
theorem dX12_usual_120 : decode cX12_usual 120 = .ok (.iload_n 3, 1) := by decide +kernel
theorem dX12_usual_121 : decode cX12_usual 121 = .ok (.bipush 8, 2) := by decide +kernel
theorem dX12_usual_123 : decode cX12_usual 123 = .ok (.iadd, 1) := by decide +kernel
theorem dX12_usual_124 : decode cX12_usual 124 = .ok (.iastore, 1) := by decide +kernel
theorem dX12_usual_125 : decode cX12_usual 125 = .ok (.iinc 2 1, 3) := by decide +kernel
theorem dX12_usual_128 : decode cX12_usual 128 = .ok (.goto (-105), 3) := by decide +kernel
theorem dX12_usual_131 : decode cX12_usual 131 = .ok (.aload_n 0, 1) := by decide +kernel
theorem dX12_usual_132 : decode cX12_usual 132 = .ok (.iconst 0, 1) := by decide +kernel
theorem dX12_usual_133 : decode cX12_usual 133 = .ok (.putfield 121, 3) := by decide +kernel
theorem dX12_usual_136 : decode cX12_usual 136 = .ok (.aload_n 0, 1) := by decide +kernel
theorem dX12_usual_137 : decode cX12_usual 137 = .ok (.bipush 15, 2) := by decide +kernel
theorem dX12_usual_139 : decode cX12_usual 139 = .ok (.putfield 124, 3) := by decide +kernel
theorem dX12_usual_142 : decode cX12_usual 142 = .ok (.aload_n 0, 1) := by decide +kernel
theorem dX12_usual_143 : decode cX12_usual 143 = .ok (.iconst (-1), 1) := by decide +kernel
theorem dX12_usual_144 : decode cX12_usual 144 = .ok (.putfield 127, 3) := by decide +kernel
theorem dX12_usual_147 : decode cX12_usual 147 = .ok (.aload_n 0, 1) := by decide +kernel
theorem dX12_usual_148 : decode cX12_usual 148 = .ok (.iconst 0, 1) := by decide +kernel
theorem dX12_usual_149 : decode cX12_usual 149 = .ok (.putfield 130, 3) := by decide +kernel
theorem dX12_usual_152 : decode cX12_usual 152 = .ok (.aload_n 0, 1) := by decide +kernel
theorem dX12_usual_153 : decode cX12_usual 153 = .ok (.iconst 1, 1) := by decide +kernel
theorem dX12_usual_154 : decode cX12_usual 154 = .ok (.putfield 133, 3) := by decide +kernel
theorem dX12_usual_157 : decode cX12_usual 157 = .ok (.aload_n 0, 1) := by decide +kernel
theorem dX12_usual_158 : decode cX12_usual 158 = .ok (.iload_n 1, 1) := by decide +kernel
theorem dX12_usual_159 : decode cX12_usual 159 = .ok (.invokevirtual 182, 3) := by decide +kernel
theorem dX12_usual_162 : decode cX12_usual 162 = .ok (.return_, 1) := by decide +kernel
theorem dX12_start_0 : decode cX12_start 0 = .ok (.iconst 0, 1) := by decide +kernel
theorem dX12_start_1 : decode cX12_start 1 = .ok (.istore_n 2, 1) := by decide +kernel
theorem dX12_start_2 : decode cX12_start 2 = .ok (.iload_n 2, 1) := by decide +kernel
theorem dX12_start_3 : decode cX12_start 3 = .ok (.bipush 64, 2) := by decide +kernel
theorem dX12_start_5 : decode cX12_start 5 = .ok (.if_icmp .ge 26, 3) := by decide +kernel
theorem dX12_start_8 : decode cX12_start 8 = .ok (.aload_n 0, 1) := by decide +kernel
theorem dX12_start_9 : decode cX12_start 9 = .ok (.getfield 46, 3) := by decide +kernel
theorem dX12_start_12 : decode cX12_start 12 = .ok (.bipush 64, 2) := by decide +kernel
theorem dX12_start_14 : decode cX12_start 14 = .ok (.iload_n 1, 1) := by decide +kernel
theorem dX12_start_15 : decode cX12_start 15 = .ok (.imul, 1) := by decide +kernel
theorem dX12_start_16 : decode cX12_start 16 = .ok (.iload_n 2, 1) := by decide +kernel
theorem dX12_start_17 : decode cX12_start 17 = .ok (.iadd, 1) := by decide +kernel
theorem dX12_start_18 : decode cX12_start 18 = .ok (.aload_n 0, 1) := by decide +kernel
theorem dX12_start_19 : decode cX12_start 19 = .ok (.getfield 70, 3) := by decide +kernel
theorem dX12_start_22 : decode cX12_start 22 = .ok (.iload_n 2, 1) := by decide +kernel
theorem dX12_start_23 : decode cX12_start 23 = .ok (.iaload, 1) := by decide +kernel
theorem dX12_start_24 : decode cX12_start 24 = .ok (.iastore, 1) := by decide +kernel
theorem dX12_start_25 : decode cX12_start 25 = .ok (.iinc 2 1, 3) := by decide +kernel
theorem dX12_start_28 : decode cX12_start 28 = .ok (.goto (-26), 3) := by decide +kernel
theorem dX12_start_31 : decode cX12_start 31 = .ok (.aload_n 0, 1) := by decide +kernel
theorem dX12_start_32 : decode cX12_start 32 = .ok (.getfield 49, 3) := by decide +kernel
theorem dX12_start_35 : decode cX12_start 35 = .ok (.iconst 5, 1) := by decide +kernel
theorem dX12_start_36 : decode cX12_start 36 = .ok (.iload_n 1, 1) := by decide +kernel
theorem dX12_start_37 : decode cX12_start 37 = .ok (.imul, 1) := by decide +kernel
theorem dX12_start_38 : decode cX12_start 38 = .ok (.aload_n 0, 1) := by decide +kernel
theorem dX12_start_39 : decode cX12_start 39 = .ok (.getfield 121, 3) := by decide +kernel
theorem dX12_start_42 : decode cX12_start 42 = .ok (.iastore, 1) := by decide +kernel
theorem dX12_start_43 : decode cX12_start 43 = .ok (.aload_n 0, 1) := by decide +kernel
theorem dX12_start_44 : decode cX12_start 44 = .ok (.getfield 49, 3) := by decide +kernel
theorem dX12_start_47 : decode cX12_start 47 = .ok (.iconst 5, 1) := by decide +kernel
theorem dX12_start_48 : decode cX12_start 48 = .ok (.iload_n 1, 1) := by decide +kernel
theorem dX12_start_49 : decode cX12_start 49 = .ok (.imul, 1) := by decide +kernel
theorem dX12_start_50 : decode cX12_start 50 = .ok (.iconst 1, 1) := by decide +kernel
theorem dX12_start_51 : decode cX12_start 51 = .ok (.iadd, 1) := by decide +kernel
theorem dX12_start_52 : decode cX12_start 52 = .ok (.aload_n 0, 1) := by decide +kernel
theorem dX12_start_53 : decode cX12_start 53 = .ok (.getfield 124, 3) := by decide +kernel
theorem dX12_start_56 : decode cX12_start 56 = .ok (.iastore, 1) := by decide +kernel
theorem dX12_start_57 : decode cX12_start 57 = .ok (.aload_n 0, 1) := by decide +kernel
theorem dX12_start_58 : decode cX12_start 58 = .ok (.getfield 49, 3) := by decide +kernel
theorem dX12_start_61 : decode cX12_start 61 = .ok (.iconst 5, 1) := by decide +kernel
theorem dX12_start_62 : decode cX12_start 62 = .ok (.iload_n 1, 1) := by decide +kernel
theorem dX12_start_63 : decode cX12_start 63 = .ok (.imul, 1) := by decide +kernel
theorem dX12_start_64 : decode cX12_start 64 = .ok (.iconst 2, 1) := by decide +kernel
theorem dX12_start_65 : decode cX12_start 65 = .ok (.iadd, 1) := by decide +kernel
theorem dX12_start_66 : decode cX12_start 66 = .ok (.aload_n 0, 1) := by decide +kernel
theorem dX12_start_67 : decode cX12_start 67 = .ok (.getfield 127, 3) := by decide +kernel
theorem dX12_start_70 : decode cX12_start 70 = .ok (.iastore, 1) := by decide +kernel
theorem dX12_start_71 : decode cX12_start 71 = .ok (.aload_n 0, 1) := by decide +kernel
theorem dX12_start_72 : decode cX12_start 72 = .ok (.getfield 49, 3) := by decide +kernel
theorem dX12_start_75 : decode cX12_start 75 = .ok (.iconst 5, 1) := by decide +kernel
theorem dX12_start_76 : decode cX12_start 76 = .ok (.iload_n 1, 1) := by decide +kernel
theorem dX12_start_77 : decode cX12_start 77 = .ok (.imul, 1) := by decide +kernel
theorem dX12_start_78 : decode cX12_start 78 = .ok (.iconst 3, 1) := by decide +kernel
theorem dX12_start_79 : decode cX12_start 79 = .ok (.iadd, 1) := by decide +kernel
theorem dX12_start_80 : decode cX12_start 80 = .ok (.aload_n 0, 1) := by decide +kernel
theorem dX12_start_81 : decode cX12_start 81 = .ok (.getfield 130, 3) := by decide +kernel
theorem dX12_start_84 : decode cX12_start 84 = .ok (.iastore, 1) := by decide +kernel
theorem dX12_start_85 : decode cX12_start 85 = .ok (.aload_n 0, 1) := by decide +kernel
theorem dX12_start_86 : decode cX12_start 86 = .ok (.getfield 49, 3) := by decide +kernel
theorem dX12_start_89 : decode cX12_start 89 = .ok (.iconst 5, 1) := by decide +kernel
theorem dX12_start_90 : decode cX12_start 90 = .ok (.iload_n 1, 1) := by decide +kernel
theorem dX12_start_91 : decode cX12_start 91 = .ok (.imul, 1) := by decide +kernel
theorem dX12_start_92 : decode cX12_start 92 = .ok (.iconst 4, 1) := by decide +kernel
theorem dX12_start_93 : decode cX12_start 93 = .ok (.iadd, 1) := by decide +kernel
theorem dX12_start_94 : decode cX12_start 94 = .ok (.aload_n 0, 1) := by decide +kernel
theorem dX12_start_95 : decode cX12_start 95 = .ok (.getfield 133, 3) := by decide +kernel
theorem dX12_start_98 : decode cX12_start 98 = .ok (.iastore, 1) := by decide +kernel
theorem dX12_start_99 : decode cX12_start 99 = .ok (.return_, 1) := by decide +kernel
theorem dX12_place_0 : decode cX12_place 0 = .ok (.iconst 0, 1) := by decide +kernel
theorem dX12_place_1 : decode cX12_place 1 = .ok (.istore_n 3, 1) := by decide +kernel
theorem dX12_place_2 : decode cX12_place 2 = .ok (.iload_n 2, 1) := by decide +kernel
theorem dX12_place_3 : decode cX12_place 3 = .ok (.istore 4, 2) := by decide +kernel
theorem dX12_place_5 : decode cX12_place 5 = .ok (.iload 4, 2) := by decide +kernel
theorem dX12_place_7 : decode cX12_place 7 = .ok (.ifCond .le 32, 3) := by decide +kernel
theorem dX12_place_10 : decode cX12_place 10 = .ok (.aload_n 0, 1) := by decide +kernel
theorem dX12_place_11 : decode cX12_place 11 = .ok (.getfield 82, 3) := by decide +kernel
theorem dX12_place_14 : decode cX12_place 14 = .ok (.iload_n 3, 1) := by decide +kernel
theorem dX12_place_15 : decode cX12_place 15 = .ok (.iload 4, 2) := by decide +kernel
theorem dX12_place_17 : decode cX12_place 17 = .ok (.iastore, 1) := by decide +kernel
theorem dX12_place_18 : decode cX12_place 18 = .ok (.iinc 3 1, 3) := by decide +kernel
theorem dX12_place_21 : decode cX12_place 21 = .ok (.aload_n 0, 1) := by decide +kernel
theorem dX12_place_22 : decode cX12_place 22 = .ok (.getfield 21, 3) := by decide +kernel
theorem dX12_place_25 : decode cX12_place 25 = .ok (.sipush 301, 3) := by decide +kernel
theorem dX12_place_28 : decode cX12_place 28 = .ok (.iload_n 1, 1) := by decide +kernel
theorem dX12_place_29 : decode cX12_place 29 = .ok (.imul, 1) := by decide +kernel
theorem dX12_place_30 : decode cX12_place 30 = .ok (.iload 4, 2) := by decide +kernel
theorem dX12_place_32 : decode cX12_place 32 = .ok (.iadd, 1) := by decide +kernel
theorem dX12_place_33 : decode cX12_place 33 = .ok (.iaload, 1) := by decide +kernel
theorem dX12_place_34 : decode cX12_place 34 = .ok (.istore 4, 2) := by decide +kernel
theorem dX12_place_36 : decode cX12_place 36 = .ok (.goto (-31), 3) := by decide +kernel
theorem dX12_place_39 : decode cX12_place 39 = .ok (.iconst 0, 1) := by decide +kernel
theorem dX12_place_40 : decode cX12_place 40 = .ok (.istore 4, 2) := by decide +kernel
theorem dX12_place_42 : decode cX12_place 42 = .ok (.iload 4, 2) := by decide +kernel
theorem dX12_place_44 : decode cX12_place 44 = .ok (.bipush 64, 2) := by decide +kernel
theorem dX12_place_46 : decode cX12_place 46 = .ok (.if_icmp .ge 28, 3) := by decide +kernel
theorem dX12_place_49 : decode cX12_place 49 = .ok (.aload_n 0, 1) := by decide +kernel
theorem dX12_place_50 : decode cX12_place 50 = .ok (.getfield 70, 3) := by decide +kernel
theorem dX12_place_53 : decode cX12_place 53 = .ok (.iload 4, 2) := by decide +kernel
theorem dX12_place_55 : decode cX12_place 55 = .ok (.aload_n 0, 1) := by decide +kernel
theorem dX12_place_56 : decode cX12_place 56 = .ok (.getfield 46, 3) := by decide +kernel
theorem dX12_place_59 : decode cX12_place 59 = .ok (.bipush 64, 2) := by decide +kernel
theorem dX12_place_61 : decode cX12_place 61 = .ok (.iload_n 1, 1) := by decide +kernel
theorem dX12_place_62 : decode cX12_place 62 = .ok (.imul, 1) := by decide +kernel
theorem dX12_place_63 : decode cX12_place 63 = .ok (.iload 4, 2) := by decide +kernel
theorem dX12_place_65 : decode cX12_place 65 = .ok (.iadd, 1) := by decide +kernel
theorem dX12_place_66 : decode cX12_place 66 = .ok (.iaload, 1) := by decide +kernel
theorem dX12_place_67 : decode cX12_place 67 = .ok (.iastore, 1) := by decide +kernel
theorem dX12_place_68 : decode cX12_place 68 = .ok (.iinc 4 1, 3) := by decide +kernel
theorem dX12_place_71 : decode cX12_place 71 = .ok (.goto (-29), 3) := by decide +kernel
theorem dX12_place_74 : decode cX12_place 74 = .ok (.aload_n 0, 1) := by decide +kernel
theorem dX12_place_75 : decode cX12_place 75 = .ok (.aload_n 0, 1) := by decide +kernel
theorem dX12_place_76 : decode cX12_place 76 = .ok (.getfield 49, 3) := by decide +kernel
theorem dX12_place_79 : decode cX12_place 79 = .ok (.iconst 5, 1) := by decide +kernel
theorem dX12_place_80 : decode cX12_place 80 = .ok (.iload_n 1, 1) := by decide +kernel
theorem dX12_place_81 : decode cX12_place 81 = .ok (.imul, 1) := by decide +kernel
theorem dX12_place_82 : decode cX12_place 82 = .ok (.iaload, 1) := by decide +kernel
theorem dX12_place_83 : decode cX12_place 83 = .ok (.putfield 121, 3) := by decide +kernel
theorem dX12_place_86 : decode cX12_place 86 = .ok (.aload_n 0, 1) := by decide +kernel
theorem dX12_place_87 : decode cX12_place 87 = .ok (.aload_n 0, 1) := by decide +kernel
theorem dX12_place_88 : decode cX12_place 88 = .ok (.getfield 49, 3) := by decide +kernel
theorem dX12_place_91 : decode cX12_place 91 = .ok (.iconst 5, 1) := by decide +kernel
theorem dX12_place_92 : decode cX12_place 92 = .ok (.iload_n 1, 1) := by decide +kernel
theorem dX12_place_93 : decode cX12_place 93 = .ok (.imul, 1) := by decide +kernel
theorem dX12_place_94 : decode cX12_place 94 = .ok (.iconst 1, 1) := by decide +kernel
theorem dX12_place_95 : decode cX12_place 95 = .ok (.iadd, 1) := by decide +kernel
theorem dX12_place_96 : decode cX12_place 96 = .ok (.iaload, 1) := by decide +kernel
theorem dX12_place_97 : decode cX12_place 97 = .ok (.putfield 124, 3) := by decide +kernel
theorem dX12_place_100 : decode cX12_place 100 = .ok (.aload_n 0, 1) := by decide +kernel
theorem dX12_place_101 : decode cX12_place 101 = .ok (.aload_n 0, 1) := by decide +kernel
theorem dX12_place_102 : decode cX12_place 102 = .ok (.getfield 49, 3) := by decide +kernel
theorem dX12_place_105 : decode cX12_place 105 = .ok (.iconst 5, 1) := by decide +kernel
theorem dX12_place_106 : decode cX12_place 106 = .ok (.iload_n 1, 1) := by decide +kernel
theorem dX12_place_107 : decode cX12_place 107 = .ok (.imul, 1) := by decide +kernel
theorem dX12_place_108 : decode cX12_place 108 = .ok (.iconst 2, 1) := by decide +kernel
theorem dX12_place_109 : decode cX12_place 109 = .ok (.iadd, 1) := by decide +kernel
theorem dX12_place_110 : decode cX12_place 110 = .ok (.iaload, 1) := by decide +kernel
end
section
theorem dX12_place_111 : decode cX12_place 111 = .ok (.putfield 127, 3) := by decide +kernel
theorem dX12_place_114 : decode cX12_place 114 = .ok (.aload_n 0, 1) := by decide +kernel
theorem dX12_place_115 : decode cX12_place 115 = .ok (.aload_n 0, 1) := by decide +kernel
theorem dX12_place_116 : decode cX12_place 116 = .ok (.getfield 49, 3) := by decide +kernel
theorem dX12_place_119 : decode cX12_place 119 = .ok (.iconst 5, 1) := by decide +kernel
theorem dX12_place_120 : decode cX12_place 120 = .ok (.iload_n 1, 1) := by decide +kernel
theorem dX12_place_121 : decode cX12_place 121 = .ok (.imul, 1) := by decide +kernel
theorem dX12_place_122 : decode cX12_place 122 = .ok (.iconst 3, 1) := by decide +kernel
theorem dX12_place_123 : decode cX12_place 123 = .ok (.iadd, 1) := by decide +kernel
theorem dX12_place_124 : decode cX12_place 124 = .ok (.iaload, 1) := by decide +kernel
theorem dX12_place_125 : decode cX12_place 125 = .ok (.putfield 130, 3) := by decide +kernel
theorem dX12_place_128 : decode cX12_place 128 = .ok (.aload_n 0, 1) := by decide +kernel
theorem dX12_place_129 : decode cX12_place 129 = .ok (.aload_n 0, 1) := by decide +kernel
theorem dX12_place_130 : decode cX12_place 130 = .ok (.getfield 49, 3) := by decide +kernel
theorem dX12_place_133 : decode cX12_place 133 = .ok (.iconst 5, 1) := by decide +kernel
theorem dX12_place_134 : decode cX12_place 134 = .ok (.iload_n 1, 1) := by decide +kernel
theorem dX12_place_135 : decode cX12_place 135 = .ok (.imul, 1) := by decide +kernel
theorem dX12_place_136 : decode cX12_place 136 = .ok (.iconst 4, 1) := by decide +kernel
theorem dX12_place_137 : decode cX12_place 137 = .ok (.iadd, 1) := by decide +kernel
theorem dX12_place_138 : decode cX12_place 138 = .ok (.iaload, 1) := by decide +kernel
theorem dX12_place_139 : decode cX12_place 139 = .ok (.putfield 133, 3) := by decide +kernel
theorem dX12_place_142 : decode cX12_place 142 = .ok (.iload_n 3, 1) := by decide +kernel
theorem dX12_place_143 : decode cX12_place 143 = .ok (.iconst 1, 1) := by decide +kernel
theorem dX12_place_144 : decode cX12_place 144 = .ok (.isub, 1) := by decide +kernel
theorem dX12_place_145 : decode cX12_place 145 = .ok (.istore 4, 2) := by decide +kernel
theorem dX12_place_147 : decode cX12_place 147 = .ok (.iload 4, 2) := by decide +kernel
theorem dX12_place_149 : decode cX12_place 149 = .ok (.ifCond .lt 31, 3) := by decide +kernel
theorem dX12_place_152 : decode cX12_place 152 = .ok (.aload_n 0, 1) := by decide +kernel
theorem dX12_place_153 : decode cX12_place 153 = .ok (.aload_n 0, 1) := by decide +kernel
theorem dX12_place_154 : decode cX12_place 154 = .ok (.getfield 24, 3) := by decide +kernel
theorem dX12_place_157 : decode cX12_place 157 = .ok (.sipush 301, 3) := by decide +kernel
theorem dX12_place_160 : decode cX12_place 160 = .ok (.iload_n 1, 1) := by decide +kernel
theorem dX12_place_161 : decode cX12_place 161 = .ok (.imul, 1) := by decide +kernel
theorem dX12_place_162 : decode cX12_place 162 = .ok (.aload_n 0, 1) := by decide +kernel
theorem dX12_place_163 : decode cX12_place 163 = .ok (.getfield 82, 3) := by decide +kernel
theorem dX12_place_166 : decode cX12_place 166 = .ok (.iload 4, 2) := by decide +kernel
theorem dX12_place_168 : decode cX12_place 168 = .ok (.iaload, 1) := by decide +kernel
theorem dX12_place_169 : decode cX12_place 169 = .ok (.iadd, 1) := by decide +kernel
theorem dX12_place_170 : decode cX12_place 170 = .ok (.iaload, 1) := by decide +kernel
theorem dX12_place_171 : decode cX12_place 171 = .ok (.invokevirtual 149, 3) := by decide +kernel
theorem dX12_place_174 : decode cX12_place 174 = .ok (.iinc 4 (-1), 3) := by decide +kernel
theorem dX12_place_177 : decode cX12_place 177 = .ok (.goto (-30), 3) := by decide +kernel
theorem dX12_place_180 : decode cX12_place 180 = .ok (.aload_n 0, 1) := by decide +kernel
theorem dX12_place_181 : decode cX12_place 181 = .ok (.invokevirtual 185, 3) := by decide +kernel
theorem dX12_place_184 : decode cX12_place 184 = .ok (.return_, 1) := by decide +kernel
theorem dX12_childWith_0 : decode cX12_childWith 0 = .ok (.aload_n 0, 1) := by decide +kernel
theorem dX12_childWith_1 : decode cX12_childWith 1 = .ok (.getfield 27, 3) := by decide +kernel
theorem dX12_childWith_4 : decode cX12_childWith 4 = .ok (.sipush 301, 3) := by decide +kernel
theorem dX12_childWith_7 : decode cX12_childWith 7 = .ok (.iload_n 1, 1) := by decide +kernel
theorem dX12_childWith_8 : decode cX12_childWith 8 = .ok (.imul, 1) := by decide +kernel
theorem dX12_childWith_9 : decode cX12_childWith 9 = .ok (.iload_n 2, 1) := by decide +kernel
theorem dX12_childWith_10 : decode cX12_childWith 10 = .ok (.iadd, 1) := by decide +kernel
theorem dX12_childWith_11 : decode cX12_childWith 11 = .ok (.iaload, 1) := by decide +kernel
theorem dX12_childWith_12 : decode cX12_childWith 12 = .ok (.istore 4, 2) := by decide +kernel
theorem dX12_childWith_14 : decode cX12_childWith 14 = .ok (.iload 4, 2) := by decide +kernel
theorem dX12_childWith_16 : decode cX12_childWith 16 = .ok (.ifCond .lt 38, 3) := by decide +kernel
theorem dX12_childWith_19 : decode cX12_childWith 19 = .ok (.aload_n 0, 1) := by decide +kernel
theorem dX12_childWith_20 : decode cX12_childWith 20 = .ok (.getfield 24, 3) := by decide +kernel
theorem dX12_childWith_23 : decode cX12_childWith 23 = .ok (.sipush 301, 3) := by decide +kernel
theorem dX12_childWith_26 : decode cX12_childWith 26 = .ok (.iload_n 1, 1) := by decide +kernel
theorem dX12_childWith_27 : decode cX12_childWith 27 = .ok (.imul, 1) := by decide +kernel
theorem dX12_childWith_28 : decode cX12_childWith 28 = .ok (.iload 4, 2) := by decide +kernel
theorem dX12_childWith_30 : decode cX12_childWith 30 = .ok (.iadd, 1) := by decide +kernel
theorem dX12_childWith_31 : decode cX12_childWith 31 = .ok (.iaload, 1) := by decide +kernel
theorem dX12_childWith_32 : decode cX12_childWith 32 = .ok (.iload_n 3, 1) := by decide +kernel
theorem dX12_childWith_33 : decode cX12_childWith 33 = .ok (.if_icmp .eq 21, 3) := by decide +kernel
theorem dX12_childWith_36 : decode cX12_childWith 36 = .ok (.aload_n 0, 1) := by decide +kernel
theorem dX12_childWith_37 : decode cX12_childWith 37 = .ok (.getfield 30, 3) := by decide +kernel
theorem dX12_childWith_40 : decode cX12_childWith 40 = .ok (.sipush 301, 3) := by decide +kernel
theorem dX12_childWith_43 : decode cX12_childWith 43 = .ok (.iload_n 1, 1) := by decide +kernel
theorem dX12_childWith_44 : decode cX12_childWith 44 = .ok (.imul, 1) := by decide +kernel
theorem dX12_childWith_45 : decode cX12_childWith 45 = .ok (.iload 4, 2) := by decide +kernel
theorem dX12_childWith_47 : decode cX12_childWith 47 = .ok (.iadd, 1) := by decide +kernel
theorem dX12_childWith_48 : decode cX12_childWith 48 = .ok (.iaload, 1) := by decide +kernel
theorem dX12_childWith_49 : decode cX12_childWith 49 = .ok (.istore 4, 2) := by decide +kernel
theorem dX12_childWith_51 : decode cX12_childWith 51 = .ok (.goto (-37), 3) := by decide +kernel
theorem dX12_childWith_54 : decode cX12_childWith 54 = .ok (.iload 4, 2) := by decide +kernel
theorem dX12_childWith_56 : decode cX12_childWith 56 = .ok (.ireturn, 1) := by decide +kernel
theorem dX12_append_0 : decode cX12_append 0 = .ok (.aload_n 0, 1) := by decide +kernel
theorem dX12_append_1 : decode cX12_append 1 = .ok (.getfield 17, 3) := by decide +kernel
theorem dX12_append_4 : decode cX12_append 4 = .ok (.iload_n 1, 1) := by decide +kernel
theorem dX12_append_5 : decode cX12_append 5 = .ok (.dup2, 1) := by decide +kernel
theorem dX12_append_6 : decode cX12_append 6 = .ok (.iaload, 1) := by decide +kernel
theorem dX12_append_7 : decode cX12_append 7 = .ok (.iconst 1, 1) := by decide +kernel
theorem dX12_append_8 : decode cX12_append 8 = .ok (.iadd, 1) := by decide +kernel
theorem dX12_append_9 : decode cX12_append 9 = .ok (.iastore, 1) := by decide +kernel
theorem dX12_append_10 : decode cX12_append 10 = .ok (.aload_n 0, 1) := by decide +kernel
theorem dX12_append_11 : decode cX12_append 11 = .ok (.getfield 17, 3) := by decide +kernel
theorem dX12_append_14 : decode cX12_append 14 = .ok (.iload_n 1, 1) := by decide +kernel
theorem dX12_append_15 : decode cX12_append 15 = .ok (.iaload, 1) := by decide +kernel
theorem dX12_append_16 : decode cX12_append 16 = .ok (.istore 4, 2) := by decide +kernel
theorem dX12_append_18 : decode cX12_append 18 = .ok (.aload_n 0, 1) := by decide +kernel
theorem dX12_append_19 : decode cX12_append 19 = .ok (.sipush 301, 3) := by decide +kernel
theorem dX12_append_22 : decode cX12_append 22 = .ok (.iload_n 1, 1) := by decide +kernel
theorem dX12_append_23 : decode cX12_append 23 = .ok (.imul, 1) := by decide +kernel
theorem dX12_append_24 : decode cX12_append 24 = .ok (.iload 4, 2) := by decide +kernel
theorem dX12_append_26 : decode cX12_append 26 = .ok (.iadd, 1) := by decide +kernel
theorem dX12_append_27 : decode cX12_append 27 = .ok (.invokevirtual 179, 3) := by decide +kernel
theorem dX12_append_30 : decode cX12_append 30 = .ok (.aload_n 0, 1) := by decide +kernel
theorem dX12_append_31 : decode cX12_append 31 = .ok (.getfield 21, 3) := by decide +kernel
theorem dX12_append_34 : decode cX12_append 34 = .ok (.sipush 301, 3) := by decide +kernel
theorem dX12_append_37 : decode cX12_append 37 = .ok (.iload_n 1, 1) := by decide +kernel
theorem dX12_append_38 : decode cX12_append 38 = .ok (.imul, 1) := by decide +kernel
theorem dX12_append_39 : decode cX12_append 39 = .ok (.iload 4, 2) := by decide +kernel
theorem dX12_append_41 : decode cX12_append 41 = .ok (.iadd, 1) := by decide +kernel
theorem dX12_append_42 : decode cX12_append 42 = .ok (.iload_n 2, 1) := by decide +kernel
theorem dX12_append_43 : decode cX12_append 43 = .ok (.iastore, 1) := by decide +kernel
theorem dX12_append_44 : decode cX12_append 44 = .ok (.aload_n 0, 1) := by decide +kernel
theorem dX12_append_45 : decode cX12_append 45 = .ok (.getfield 24, 3) := by decide +kernel
theorem dX12_append_48 : decode cX12_append 48 = .ok (.sipush 301, 3) := by decide +kernel
theorem dX12_append_51 : decode cX12_append 51 = .ok (.iload_n 1, 1) := by decide +kernel
theorem dX12_append_52 : decode cX12_append 52 = .ok (.imul, 1) := by decide +kernel
theorem dX12_append_53 : decode cX12_append 53 = .ok (.iload 4, 2) := by decide +kernel
theorem dX12_append_55 : decode cX12_append 55 = .ok (.iadd, 1) := by decide +kernel
theorem dX12_append_56 : decode cX12_append 56 = .ok (.iload_n 3, 1) := by decide +kernel
theorem dX12_append_57 : decode cX12_append 57 = .ok (.iastore, 1) := by decide +kernel
theorem dX12_append_58 : decode cX12_append 58 = .ok (.aload_n 0, 1) := by decide +kernel
theorem dX12_append_59 : decode cX12_append 59 = .ok (.getfield 27, 3) := by decide +kernel
theorem dX12_append_62 : decode cX12_append 62 = .ok (.sipush 301, 3) := by decide +kernel
theorem dX12_append_65 : decode cX12_append 65 = .ok (.iload_n 1, 1) := by decide +kernel
theorem dX12_append_66 : decode cX12_append 66 = .ok (.imul, 1) := by decide +kernel
theorem dX12_append_67 : decode cX12_append 67 = .ok (.iload_n 2, 1) := by decide +kernel
theorem dX12_append_68 : decode cX12_append 68 = .ok (.iadd, 1) := by decide +kernel
theorem dX12_append_69 : decode cX12_append 69 = .ok (.iaload, 1) := by decide +kernel
theorem dX12_append_70 : decode cX12_append 70 = .ok (.istore 5, 2) := by decide +kernel
theorem dX12_append_72 : decode cX12_append 72 = .ok (.iload 5, 2) := by decide +kernel
theorem dX12_append_74 : decode cX12_append 74 = .ok (.ifCond .ge 20, 3) := by decide +kernel
theorem dX12_append_77 : decode cX12_append 77 = .ok (.aload_n 0, 1) := by decide +kernel
theorem dX12_append_78 : decode cX12_append 78 = .ok (.getfield 27, 3) := by decide +kernel
theorem dX12_append_81 : decode cX12_append 81 = .ok (.sipush 301, 3) := by decide +kernel
theorem dX12_append_84 : decode cX12_append 84 = .ok (.iload_n 1, 1) := by decide +kernel
theorem dX12_append_85 : decode cX12_append 85 = .ok (.imul, 1) := by decide +kernel
theorem dX12_append_86 : decode cX12_append 86 = .ok (.iload_n 2, 1) := by decide +kernel
theorem dX12_append_87 : decode cX12_append 87 = .ok (.iadd, 1) := by decide +kernel
theorem dX12_append_88 : decode cX12_append 88 = .ok (.iload 4, 2) := by decide +kernel
theorem dX12_append_90 : decode cX12_append 90 = .ok (.iastore, 1) := by decide +kernel
theorem dX12_append_91 : decode cX12_append 91 = .ok (.goto 52, 3) := by decide +kernel
theorem dX12_append_94 : decode cX12_append 94 = .ok (.aload_n 0, 1) := by decide +kernel
theorem dX12_append_95 : decode cX12_append 95 = .ok (.getfield 30, 3) := by decide +kernel
theorem dX12_append_98 : decode cX12_append 98 = .ok (.sipush 301, 3) := by decide +kernel
theorem dX12_append_101 : decode cX12_append 101 = .ok (.iload_n 1, 1) := by decide +kernel
theorem dX12_append_102 : decode cX12_append 102 = .ok (.imul, 1) := by decide +kernel
theorem dX12_append_103 : decode cX12_append 103 = .ok (.iload 5, 2) := by decide +kernel
theorem dX12_append_105 : decode cX12_append 105 = .ok (.iadd, 1) := by decide +kernel
theorem dX12_append_106 : decode cX12_append 106 = .ok (.iaload, 1) := by decide +kernel
theorem dX12_append_107 : decode cX12_append 107 = .ok (.ifCond .lt 21, 3) := by decide +kernel
theorem dX12_append_110 : decode cX12_append 110 = .ok (.aload_n 0, 1) := by decide +kernel
theorem dX12_append_111 : decode cX12_append 111 = .ok (.getfield 30, 3) := by decide +kernel
theorem dX12_append_114 : decode cX12_append 114 = .ok (.sipush 301, 3) := by decide +kernel
theorem dX12_append_117 : decode cX12_append 117 = .ok (.iload_n 1, 1) := by decide +kernel
theorem dX12_append_118 : decode cX12_append 118 = .ok (.imul, 1) := by decide +kernel
theorem dX12_append_119 : decode cX12_append 119 = .ok (.iload 5, 2) := by decide +kernel
theorem dX12_append_121 : decode cX12_append 121 = .ok (.iadd, 1) := by decide +kernel
theorem dX12_append_122 : decode cX12_append 122 = .ok (.iaload, 1) := by decide +kernel
theorem dX12_append_123 : decode cX12_append 123 = .ok (.istore 5, 2) := by decide +kernel
theorem dX12_append_125 : decode cX12_append 125 = .ok (.goto (-31), 3) := by decide +kernel
theorem dX12_append_128 : decode cX12_append 128 = .ok (.aload_n 0, 1) := by decide +kernel
theorem dX12_append_129 : decode cX12_append 129 = .ok (.getfield 30, 3) := by decide +kernel
theorem dX12_append_132 : decode cX12_append 132 = .ok (.sipush 301, 3) := by decide +kernel
theorem dX12_append_135 : decode cX12_append 135 = .ok (.iload_n 1, 1) := by decide +kernel
theorem dX12_append_136 : decode cX12_append 136 = .ok (.imul, 1) := by decide +kernel
theorem dX12_append_137 : decode cX12_append 137 = .ok (.iload 5, 2) := by decide +kernel
theorem dX12_append_139 : decode cX12_append 139 = .ok (.iadd, 1) := by decide +kernel
theorem dX12_append_140 : decode cX12_append 140 = .ok (.iload 4, 2) := by decide +kernel
theorem dX12_append_142 : decode cX12_append 142 = .ok (.iastore, 1) := by decide +kernel
theorem dX12_append_143 : decode cX12_append 143 = .ok (.iload 4, 2) := by decide +kernel
theorem dX12_append_145 : decode cX12_append 145 = .ok (.ireturn, 1) := by decide +kernel
theorem dX12_isFirst_0 : decode cX12_isFirst 0 = .ok (.aload_n 0, 1) := by decide +kernel
theorem dX12_isFirst_1 : decode cX12_isFirst 1 = .ok (.getfield 27, 3) := by decide +kernel
theorem dX12_isFirst_4 : decode cX12_isFirst 4 = .ok (.sipush 301, 3) := by decide +kernel
theorem dX12_isFirst_7 : decode cX12_isFirst 7 = .ok (.iload_n 1, 1) := by decide +kernel
theorem dX12_isFirst_8 : decode cX12_isFirst 8 = .ok (.imul, 1) := by decide +kernel
theorem dX12_isFirst_9 : decode cX12_isFirst 9 = .ok (.aload_n 0, 1) := by decide +kernel
theorem dX12_isFirst_10 : decode cX12_isFirst 10 = .ok (.getfield 21, 3) := by decide +kernel
theorem dX12_isFirst_13 : decode cX12_isFirst 13 = .ok (.sipush 301, 3) := by decide +kernel
theorem dX12_isFirst_16 : decode cX12_isFirst 16 = .ok (.iload_n 1, 1) := by decide +kernel
theorem dX12_isFirst_17 : decode cX12_isFirst 17 = .ok (.imul, 1) := by decide +kernel
theorem dX12_isFirst_18 : decode cX12_isFirst 18 = .ok (.iload_n 2, 1) := by decide +kernel
theorem dX12_isFirst_19 : decode cX12_isFirst 19 = .ok (.iadd, 1) := by decide +kernel
theorem dX12_isFirst_20 : decode cX12_isFirst 20 = .ok (.iaload, 1) := by decide +kernel
theorem dX12_isFirst_21 : decode cX12_isFirst 21 = .ok (.iadd, 1) := by decide +kernel
theorem dX12_isFirst_22 : decode cX12_isFirst 22 = .ok (.iaload, 1) := by decide +kernel
theorem dX12_isFirst_23 : decode cX12_isFirst 23 = .ok (.iload_n 2, 1) := by decide +kernel
theorem dX12_isFirst_24 : decode cX12_isFirst 24 = .ok (.if_icmp .ne 7, 3) := by decide +kernel
theorem dX12_isFirst_27 : decode cX12_isFirst 27 = .ok (.iconst 1, 1) := by decide +kernel
theorem dX12_isFirst_28 : decode cX12_isFirst 28 = .ok (.goto 4, 3) := by decide +kernel
theorem dX12_isFirst_31 : decode cX12_isFirst 31 = .ok (.iconst 0, 1) := by decide +kernel
theorem dX12_isFirst_32 : decode cX12_isFirst 32 = .ok (.ireturn, 1) := by decide +kernel
theorem dX12_deepOf_0 : decode cX12_deepOf 0 = .ok (.iconst 0, 1) := by decide +kernel
theorem dX12_deepOf_1 : decode cX12_deepOf 1 = .ok (.istore_n 3, 1) := by decide +kernel
theorem dX12_deepOf_2 : decode cX12_deepOf 2 = .ok (.iload_n 2, 1) := by decide +kernel
theorem dX12_deepOf_3 : decode cX12_deepOf 3 = .ok (.istore 4, 2) := by decide +kernel
theorem dX12_deepOf_5 : decode cX12_deepOf 5 = .ok (.iload 4, 2) := by decide +kernel
theorem dX12_deepOf_7 : decode cX12_deepOf 7 = .ok (.ifCond .le 39, 3) := by decide +kernel
theorem dX12_deepOf_10 : decode cX12_deepOf 10 = .ok (.aload_n 0, 1) := by decide +kernel
theorem dX12_deepOf_11 : decode cX12_deepOf 11 = .ok (.iload_n 1, 1) := by decide +kernel
theorem dX12_deepOf_12 : decode cX12_deepOf 12 = .ok (.iload 4, 2) := by decide +kernel
theorem dX12_deepOf_14 : decode cX12_deepOf 14 = .ok (.invokevirtual 188, 3) := by decide +kernel
theorem dX12_deepOf_17 : decode cX12_deepOf 17 = .ok (.ifCond .eq 7, 3) := by decide +kernel
theorem dX12_deepOf_20 : decode cX12_deepOf 20 = .ok (.iload_n 3, 1) := by decide +kernel
theorem dX12_deepOf_21 : decode cX12_deepOf 21 = .ok (.goto 6, 3) := by decide +kernel
theorem dX12_deepOf_24 : decode cX12_deepOf 24 = .ok (.iload_n 3, 1) := by decide +kernel
theorem dX12_deepOf_25 : decode cX12_deepOf 25 = .ok (.iconst 1, 1) := by decide +kernel
theorem dX12_deepOf_26 : decode cX12_deepOf 26 = .ok (.iadd, 1) := by decide +kernel
theorem dX12_deepOf_27 : decode cX12_deepOf 27 = .ok (.istore_n 3, 1) := by decide +kernel
theorem dX12_deepOf_28 : decode cX12_deepOf 28 = .ok (.aload_n 0, 1) := by decide +kernel
theorem dX12_deepOf_29 : decode cX12_deepOf 29 = .ok (.getfield 21, 3) := by decide +kernel
theorem dX12_deepOf_32 : decode cX12_deepOf 32 = .ok (.sipush 301, 3) := by decide +kernel
theorem dX12_deepOf_35 : decode cX12_deepOf 35 = .ok (.iload_n 1, 1) := by decide +kernel
theorem dX12_deepOf_36 : decode cX12_deepOf 36 = .ok (.imul, 1) := by decide +kernel
theorem dX12_deepOf_37 : decode cX12_deepOf 37 = .ok (.iload 4, 2) := by decide +kernel
theorem dX12_deepOf_39 : decode cX12_deepOf 39 = .ok (.iadd, 1) := by decide +kernel
theorem dX12_deepOf_40 : decode cX12_deepOf 40 = .ok (.iaload, 1) := by decide +kernel
theorem dX12_deepOf_41 : decode cX12_deepOf 41 = .ok (.istore 4, 2) := by decide +kernel
theorem dX12_deepOf_43 : decode cX12_deepOf 43 = .ok (.goto (-38), 3) := by decide +kernel
theorem dX12_deepOf_46 : decode cX12_deepOf 46 = .ok (.iload_n 3, 1) := by decide +kernel
theorem dX12_deepOf_47 : decode cX12_deepOf 47 = .ok (.ireturn, 1) := by decide +kernel
theorem dX12_spell_0 : decode cX12_spell 0 = .ok (.aload_n 0, 1) := by decide +kernel
theorem dX12_spell_1 : decode cX12_spell 1 = .ok (.getfield 85, 3) := by decide +kernel
theorem dX12_spell_4 : decode cX12_spell 4 = .ok (.aload_n 0, 1) := by decide +kernel
theorem dX12_spell_5 : decode cX12_spell 5 = .ok (.getfield 191, 3) := by decide +kernel
theorem dX12_spell_8 : decode cX12_spell 8 = .ok (.iload_n 1, 1) := by decide +kernel
theorem dX12_spell_9 : decode cX12_spell 9 = .ok (.castore, 1) := by decide +kernel
theorem dX12_spell_10 : decode cX12_spell 10 = .ok (.aload_n 0, 1) := by decide +kernel
theorem dX12_spell_11 : decode cX12_spell 11 = .ok (.dup, 1) := by decide +kernel
theorem dX12_spell_12 : decode cX12_spell 12 = .ok (.getfield 191, 3) := by decide +kernel
theorem dX12_spell_15 : decode cX12_spell 15 = .ok (.iconst 1, 1) := by decide +kernel
theorem dX12_spell_16 : decode cX12_spell 16 = .ok (.iadd, 1) := by decide +kernel
theorem dX12_spell_17 : decode cX12_spell 17 = .ok (.putfield 191, 3) := by decide +kernel
theorem dX12_spell_20 : decode cX12_spell 20 = .ok (.return_, 1) := by decide +kernel
theorem dX12_spellSquare_0 : decode cX12_spellSquare 0 = .ok (.aload_n 0, 1) := by decide +kernel
theorem dX12_spellSquare_1 : decode cX12_spellSquare 1 = .ok (.bipush 97, 2) := by decide +kernel
theorem dX12_spellSquare_3 : decode cX12_spellSquare 3 = .ok (.iload_n 1, 1) := by decide +kernel
theorem dX12_spellSquare_4 : decode cX12_spellSquare 4 = .ok (.bipush 8, 2) := by decide +kernel
theorem dX12_spellSquare_6 : decode cX12_spellSquare 6 = .ok (.irem, 1) := by decide +kernel
theorem dX12_spellSquare_7 : decode cX12_spellSquare 7 = .ok (.iadd, 1) := by decide +kernel
theorem dX12_spellSquare_8 : decode cX12_spellSquare 8 = .ok (.i2c, 1) := by decide +kernel
theorem dX12_spellSquare_9 : decode cX12_spellSquare 9 = .ok (.invokevirtual 194, 3) := by decide +kernel
theorem dX12_spellSquare_12 : decode cX12_spellSquare 12 = .ok (.aload_n 0, 1) := by decide +kernel
theorem dX12_spellSquare_13 : decode cX12_spellSquare 13 = .ok (.bipush 49, 2) := by decide +kernel
theorem dX12_spellSquare_15 : decode cX12_spellSquare 15 = .ok (.iload_n 1, 1) := by decide +kernel
theorem dX12_spellSquare_16 : decode cX12_spellSquare 16 = .ok (.bipush 8, 2) := by decide +kernel
theorem dX12_spellSquare_18 : decode cX12_spellSquare 18 = .ok (.idiv, 1) := by decide +kernel
theorem dX12_spellSquare_19 : decode cX12_spellSquare 19 = .ok (.iadd, 1) := by decide +kernel
theorem dX12_spellSquare_20 : decode cX12_spellSquare 20 = .ok (.i2c, 1) := by decide +kernel
theorem dX12_spellSquare_21 : decode cX12_spellSquare 21 = .ok (.invokevirtual 194, 3) := by decide +kernel
theorem dX12_spellSquare_24 : decode cX12_spellSquare 24 = .ok (.return_, 1) := by decide +kernel
theorem dX12_letter_0 : decode cX12_letter 0 = .ok (.iload_n 0, 1) := by decide +kernel
theorem dX12_letter_1 : decode cX12_letter 1 = .ok (.iconst 2, 1) := by decide +kernel
theorem dX12_letter_2 : decode cX12_letter 2 = .ok (.if_icmp .ne 8, 3) := by decide +kernel
theorem dX12_letter_5 : decode cX12_letter 5 = .ok (.bipush 78, 2) := by decide +kernel
theorem dX12_letter_7 : decode cX12_letter 7 = .ok (.goto 35, 3) := by decide +kernel
theorem dX12_letter_10 : decode cX12_letter 10 = .ok (.iload_n 0, 1) := by decide +kernel
theorem dX12_letter_11 : decode cX12_letter 11 = .ok (.iconst 3, 1) := by decide +kernel
theorem dX12_letter_12 : decode cX12_letter 12 = .ok (.if_icmp .ne 8, 3) := by decide +kernel
theorem dX12_letter_15 : decode cX12_letter 15 = .ok (.bipush 66, 2) := by decide +kernel
theorem dX12_letter_17 : decode cX12_letter 17 = .ok (.goto 25, 3) := by decide +kernel
theorem dX12_letter_20 : decode cX12_letter 20 = .ok (.iload_n 0, 1) := by decide +kernel
theorem dX12_letter_21 : decode cX12_letter 21 = .ok (.iconst 4, 1) := by decide +kernel
theorem dX12_letter_22 : decode cX12_letter 22 = .ok (.if_icmp .ne 8, 3) := by decide +kernel
theorem dX12_letter_25 : decode cX12_letter 25 = .ok (.bipush 82, 2) := by decide +kernel
theorem dX12_letter_27 : decode cX12_letter 27 = .ok (.goto 15, 3) := by decide +kernel
theorem dX12_letter_30 : decode cX12_letter 30 = .ok (.iload_n 0, 1) := by decide +kernel
theorem dX12_letter_31 : decode cX12_letter 31 = .ok (.iconst 5, 1) := by decide +kernel
theorem dX12_letter_32 : decode cX12_letter 32 = .ok (.if_icmp .ne 8, 3) := by decide +kernel
theorem dX12_letter_35 : decode cX12_letter 35 = .ok (.bipush 81, 2) := by decide +kernel
theorem dX12_letter_37 : decode cX12_letter 37 = .ok (.goto 5, 3) := by decide +kernel
theorem dX12_letter_40 : decode cX12_letter 40 = .ok (.bipush 75, 2) := by decide +kernel
theorem dX12_letter_42 : decode cX12_letter 42 = .ok (.ireturn, 1) := by decide +kernel
theorem dX12_isCastling_0 : decode cX12_isCastling 0 = .ok (.iload_n 1, 1) := by decide +kernel
theorem dX12_isCastling_1 : decode cX12_isCastling 1 = .ok (.bipush 64, 2) := by decide +kernel
theorem dX12_isCastling_3 : decode cX12_isCastling 3 = .ok (.irem, 1) := by decide +kernel
theorem dX12_isCastling_4 : decode cX12_isCastling 4 = .ok (.istore_n 2, 1) := by decide +kernel
theorem dX12_isCastling_5 : decode cX12_isCastling 5 = .ok (.iload_n 1, 1) := by decide +kernel
theorem dX12_isCastling_6 : decode cX12_isCastling 6 = .ok (.bipush 64, 2) := by decide +kernel
theorem dX12_isCastling_8 : decode cX12_isCastling 8 = .ok (.idiv, 1) := by decide +kernel
theorem dX12_isCastling_9 : decode cX12_isCastling 9 = .ok (.bipush 64, 2) := by decide +kernel
theorem dX12_isCastling_11 : decode cX12_isCastling 11 = .ok (.irem, 1) := by decide +kernel
theorem dX12_isCastling_12 : decode cX12_isCastling 12 = .ok (.istore_n 3, 1) := by decide +kernel
theorem dX12_isCastling_13 : decode cX12_isCastling 13 = .ok (.aload_n 0, 1) := by decide +kernel
theorem dX12_isCastling_14 : decode cX12_isCastling 14 = .ok (.getfield 70, 3) := by decide +kernel
theorem dX12_isCastling_17 : decode cX12_isCastling 17 = .ok (.iload_n 2, 1) := by decide +kernel
theorem dX12_isCastling_18 : decode cX12_isCastling 18 = .ok (.iaload, 1) := by decide +kernel
theorem dX12_isCastling_19 : decode cX12_isCastling 19 = .ok (.invokestatic 136, 3) := by decide +kernel
theorem dX12_isCastling_22 : decode cX12_isCastling 22 = .ok (.bipush 6, 2) := by decide +kernel
theorem dX12_isCastling_24 : decode cX12_isCastling 24 = .ok (.if_icmp .ne 21, 3) := by decide +kernel
theorem dX12_isCastling_27 : decode cX12_isCastling 27 = .ok (.iload_n 3, 1) := by decide +kernel
theorem dX12_isCastling_28 : decode cX12_isCastling 28 = .ok (.iload_n 2, 1) := by decide +kernel
theorem dX12_isCastling_29 : decode cX12_isCastling 29 = .ok (.iconst 2, 1) := by decide +kernel
theorem dX12_isCastling_30 : decode cX12_isCastling 30 = .ok (.iadd, 1) := by decide +kernel
theorem dX12_isCastling_31 : decode cX12_isCastling 31 = .ok (.if_icmp .eq 10, 3) := by decide +kernel
theorem dX12_isCastling_34 : decode cX12_isCastling 34 = .ok (.iload_n 3, 1) := by decide +kernel
theorem dX12_isCastling_35 : decode cX12_isCastling 35 = .ok (.iload_n 2, 1) := by decide +kernel
theorem dX12_isCastling_36 : decode cX12_isCastling 36 = .ok (.iconst 2, 1) := by decide +kernel
theorem dX12_isCastling_37 : decode cX12_isCastling 37 = .ok (.isub, 1) := by decide +kernel
theorem dX12_isCastling_38 : decode cX12_isCastling 38 = .ok (.if_icmp .ne 7, 3) := by decide +kernel
theorem dX12_isCastling_41 : decode cX12_isCastling 41 = .ok (.iconst 1, 1) := by decide +kernel
theorem dX12_isCastling_42 : decode cX12_isCastling 42 = .ok (.goto 4, 3) := by decide +kernel
theorem dX12_isCastling_45 : decode cX12_isCastling 45 = .ok (.iconst 0, 1) := by decide +kernel
theorem dX12_isCastling_46 : decode cX12_isCastling 46 = .ok (.ireturn, 1) := by decide +kernel
theorem dX12_spellMove_0 : decode cX12_spellMove 0 = .ok (.iload_n 1, 1) := by decide +kernel
theorem dX12_spellMove_1 : decode cX12_spellMove 1 = .ok (.bipush 64, 2) := by decide +kernel
theorem dX12_spellMove_3 : decode cX12_spellMove 3 = .ok (.irem, 1) := by decide +kernel
theorem dX12_spellMove_4 : decode cX12_spellMove 4 = .ok (.istore 4, 2) := by decide +kernel
theorem dX12_spellMove_6 : decode cX12_spellMove 6 = .ok (.iload_n 1, 1) := by decide +kernel
theorem dX12_spellMove_7 : decode cX12_spellMove 7 = .ok (.bipush 64, 2) := by decide +kernel
theorem dX12_spellMove_9 : decode cX12_spellMove 9 = .ok (.idiv, 1) := by decide +kernel
theorem dX12_spellMove_10 : decode cX12_spellMove 10 = .ok (.bipush 64, 2) := by decide +kernel
theorem dX12_spellMove_12 : decode cX12_spellMove 12 = .ok (.irem, 1) := by decide +kernel
theorem dX12_spellMove_13 : decode cX12_spellMove 13 = .ok (.istore 5, 2) := by decide +kernel
theorem dX12_spellMove_15 : decode cX12_spellMove 15 = .ok (.iload_n 1, 1) := by decide +kernel
theorem dX12_spellMove_16 : decode cX12_spellMove 16 = .ok (.sipush 4096, 3) := by decide +kernel
theorem dX12_spellMove_19 : decode cX12_spellMove 19 = .ok (.idiv, 1) := by decide +kernel
theorem dX12_spellMove_20 : decode cX12_spellMove 20 = .ok (.istore 6, 2) := by decide +kernel
theorem dX12_spellMove_22 : decode cX12_spellMove 22 = .ok (.aload_n 0, 1) := by decide +kernel
theorem dX12_spellMove_23 : decode cX12_spellMove 23 = .ok (.iconst 0, 1) := by decide +kernel
theorem dX12_spellMove_24 : decode cX12_spellMove 24 = .ok (.putfield 191, 3) := by decide +kernel
theorem dX12_spellMove_27 : decode cX12_spellMove 27 = .ok (.aload_n 0, 1) := by decide +kernel
theorem dX12_spellMove_28 : decode cX12_spellMove 28 = .ok (.iload_n 1, 1) := by decide +kernel
theorem dX12_spellMove_29 : decode cX12_spellMove 29 = .ok (.invokevirtual 198, 3) := by decide +kernel
theorem dX12_spellMove_32 : decode cX12_spellMove 32 = .ok (.ifCond .eq 47, 3) := by decide +kernel
theorem dX12_spellMove_35 : decode cX12_spellMove 35 = .ok (.iconst 0, 1) := by decide +kernel
theorem dX12_spellMove_36 : decode cX12_spellMove 36 = .ok (.istore 7, 2) := by decide +kernel
theorem dX12_spellMove_38 : decode cX12_spellMove 38 = .ok (.iload 7, 2) := by decide +kernel
theorem dX12_spellMove_40 : decode cX12_spellMove 40 = .ok (.iload 5, 2) := by decide +kernel
theorem dX12_spellMove_42 : decode cX12_spellMove 42 = .ok (.iload 4, 2) := by decide +kernel
theorem dX12_spellMove_44 : decode cX12_spellMove 44 = .ok (.if_icmp .le 7, 3) := by decide +kernel
theorem dX12_spellMove_47 : decode cX12_spellMove 47 = .ok (.iconst 2, 1) := by decide +kernel
theorem dX12_spellMove_48 : decode cX12_spellMove 48 = .ok (.goto 4, 3) := by decide +kernel
theorem dX12_spellMove_51 : decode cX12_spellMove 51 = .ok (.iconst 3, 1) := by decide +kernel
theorem dX12_spellMove_52 : decode cX12_spellMove 52 = .ok (.if_icmp .ge 26, 3) := by decide +kernel
theorem dX12_spellMove_55 : decode cX12_spellMove 55 = .ok (.iload 7, 2) := by decide +kernel
theorem dX12_spellMove_57 : decode cX12_spellMove 57 = .ok (.ifCond .le 9, 3) := by decide +kernel
theorem dX12_spellMove_60 : decode cX12_spellMove 60 = .ok (.aload_n 0, 1) := by decide +kernel
theorem dX12_spellMove_61 : decode cX12_spellMove 61 = .ok (.bipush 45, 2) := by decide +kernel
theorem dX12_spellMove_63 : decode cX12_spellMove 63 = .ok (.invokevirtual 194, 3) := by decide +kernel
theorem dX12_spellMove_66 : decode cX12_spellMove 66 = .ok (.aload_n 0, 1) := by decide +kernel
theorem dX12_spellMove_67 : decode cX12_spellMove 67 = .ok (.bipush 79, 2) := by decide +kernel
theorem dX12_spellMove_69 : decode cX12_spellMove 69 = .ok (.invokevirtual 194, 3) := by decide +kernel
theorem dX12_spellMove_72 : decode cX12_spellMove 72 = .ok (.iinc 7 1, 3) := by decide +kernel
theorem dX12_spellMove_75 : decode cX12_spellMove 75 = .ok (.goto (-37), 3) := by decide +kernel
theorem dX12_spellMove_78 : decode cX12_spellMove 78 = .ok (.return_, 1) := by decide +kernel
theorem dX12_spellMove_79 : decode cX12_spellMove 79 = .ok (.aload_n 0, 1) := by decide +kernel
theorem dX12_spellMove_80 : decode cX12_spellMove 80 = .ok (.getfield 70, 3) := by decide +kernel
theorem dX12_spellMove_83 : decode cX12_spellMove 83 = .ok (.iload 4, 2) := by decide +kernel
theorem dX12_spellMove_85 : decode cX12_spellMove 85 = .ok (.iaload, 1) := by decide +kernel
theorem dX12_spellMove_86 : decode cX12_spellMove 86 = .ok (.invokestatic 136, 3) := by decide +kernel
theorem dX12_spellMove_89 : decode cX12_spellMove 89 = .ok (.iconst 1, 1) := by decide +kernel
theorem dX12_spellMove_90 : decode cX12_spellMove 90 = .ok (.if_icmp .eq 20, 3) := by decide +kernel
theorem dX12_spellMove_93 : decode cX12_spellMove 93 = .ok (.aload_n 0, 1) := by decide +kernel
theorem dX12_spellMove_94 : decode cX12_spellMove 94 = .ok (.aload_n 0, 1) := by decide +kernel
theorem dX12_spellMove_95 : decode cX12_spellMove 95 = .ok (.getfield 70, 3) := by decide +kernel
theorem dX12_spellMove_98 : decode cX12_spellMove 98 = .ok (.iload 4, 2) := by decide +kernel
theorem dX12_spellMove_100 : decode cX12_spellMove 100 = .ok (.iaload, 1) := by decide +kernel
theorem dX12_spellMove_101 : decode cX12_spellMove 101 = .ok (.invokestatic 136, 3) := by decide +kernel
theorem dX12_spellMove_104 : decode cX12_spellMove 104 = .ok (.invokestatic 201, 3) := by decide +kernel
theorem dX12_spellMove_107 : decode cX12_spellMove 107 = .ok (.invokevirtual 194, 3) := by decide +kernel
theorem dX12_spellMove_110 : decode cX12_spellMove 110 = .ok (.iload_n 2, 1) := by decide +kernel
theorem dX12_spellMove_111 : decode cX12_spellMove 111 = .ok (.iconst 2, 1) := by decide +kernel
theorem dX12_spellMove_112 : decode cX12_spellMove 112 = .ok (.irem, 1) := by decide +kernel
theorem dX12_spellMove_113 : decode cX12_spellMove 113 = .ok (.iconst 1, 1) := by decide +kernel
theorem dX12_spellMove_114 : decode cX12_spellMove 114 = .ok (.if_icmp .ne 16, 3) := by decide +kernel
theorem dX12_spellMove_117 : decode cX12_spellMove 117 = .ok (.aload_n 0, 1) := by decide +kernel
theorem dX12_spellMove_118 : decode cX12_spellMove 118 = .ok (.bipush 97, 2) := by decide +kernel
theorem dX12_spellMove_120 : decode cX12_spellMove 120 = .ok (.iload 4, 2) := by decide +kernel
theorem dX12_spellMove_122 : decode cX12_spellMove 122 = .ok (.bipush 8, 2) := by decide +kernel
theorem dX12_spellMove_124 : decode cX12_spellMove 124 = .ok (.irem, 1) := by decide +kernel
theorem dX12_spellMove_125 : decode cX12_spellMove 125 = .ok (.iadd, 1) := by decide +kernel
theorem dX12_spellMove_126 : decode cX12_spellMove 126 = .ok (.i2c, 1) := by decide +kernel
theorem dX12_spellMove_127 : decode cX12_spellMove 127 = .ok (.invokevirtual 194, 3) := by decide +kernel
theorem dX12_spellMove_130 : decode cX12_spellMove 130 = .ok (.iload_n 2, 1) := by decide +kernel
theorem dX12_spellMove_131 : decode cX12_spellMove 131 = .ok (.iconst 1, 1) := by decide +kernel
theorem dX12_spellMove_132 : decode cX12_spellMove 132 = .ok (.if_icmp .le 16, 3) := by decide +kernel
theorem dX12_spellMove_135 : decode cX12_spellMove 135 = .ok (.aload_n 0, 1) := by decide +kernel
theorem dX12_spellMove_136 : decode cX12_spellMove 136 = .ok (.bipush 49, 2) := by decide +kernel
theorem dX12_spellMove_138 : decode cX12_spellMove 138 = .ok (.iload 4, 2) := by decide +kernel
theorem dX12_spellMove_140 : decode cX12_spellMove 140 = .ok (.bipush 8, 2) := by decide +kernel
theorem dX12_spellMove_142 : decode cX12_spellMove 142 = .ok (.idiv, 1) := by decide +kernel
theorem dX12_spellMove_143 : decode cX12_spellMove 143 = .ok (.iadd, 1) := by decide +kernel
theorem dX12_spellMove_144 : decode cX12_spellMove 144 = .ok (.i2c, 1) := by decide +kernel
theorem dX12_spellMove_145 : decode cX12_spellMove 145 = .ok (.invokevirtual 194, 3) := by decide +kernel
theorem dX12_spellMove_148 : decode cX12_spellMove 148 = .ok (.iload_n 3, 1) := by decide +kernel
theorem dX12_spellMove_149 : decode cX12_spellMove 149 = .ok (.ifCond .eq 9, 3) := by decide +kernel
theorem dX12_spellMove_152 : decode cX12_spellMove 152 = .ok (.aload_n 0, 1) := by decide +kernel
theorem dX12_spellMove_153 : decode cX12_spellMove 153 = .ok (.bipush 120, 2) := by decide +kernel
theorem dX12_spellMove_155 : decode cX12_spellMove 155 = .ok (.invokevirtual 194, 3) := by decide +kernel
theorem dX12_spellMove_158 : decode cX12_spellMove 158 = .ok (.aload_n 0, 1) := by decide +kernel
theorem dX12_spellMove_159 : decode cX12_spellMove 159 = .ok (.iload 5, 2) := by decide +kernel
theorem dX12_spellMove_161 : decode cX12_spellMove 161 = .ok (.invokevirtual 205, 3) := by decide +kernel
theorem dX12_spellMove_164 : decode cX12_spellMove 164 = .ok (.iload 6, 2) := by decide +kernel
theorem dX12_spellMove_166 : decode cX12_spellMove 166 = .ok (.ifCond .le 18, 3) := by decide +kernel
theorem dX12_spellMove_169 : decode cX12_spellMove 169 = .ok (.aload_n 0, 1) := by decide +kernel
theorem dX12_spellMove_170 : decode cX12_spellMove 170 = .ok (.bipush 61, 2) := by decide +kernel
theorem dX12_spellMove_172 : decode cX12_spellMove 172 = .ok (.invokevirtual 194, 3) := by decide +kernel
theorem dX12_spellMove_175 : decode cX12_spellMove 175 = .ok (.aload_n 0, 1) := by decide +kernel
theorem dX12_spellMove_176 : decode cX12_spellMove 176 = .ok (.iload 6, 2) := by decide +kernel
theorem dX12_spellMove_178 : decode cX12_spellMove 178 = .ok (.invokestatic 201, 3) := by decide +kernel
theorem dX12_spellMove_181 : decode cX12_spellMove 181 = .ok (.invokevirtual 194, 3) := by decide +kernel
theorem dX12_spellMove_184 : decode cX12_spellMove 184 = .ok (.return_, 1) := by decide +kernel
theorem dX12_behind_0 : decode cX12_behind 0 = .ok (.aload_n 0, 1) := by decide +kernel
theorem dX12_behind_1 : decode cX12_behind 1 = .ok (.invokevirtual 146, 3) := by decide +kernel
theorem dX12_behind_4 : decode cX12_behind 4 = .ok (.aload_n 0, 1) := by decide +kernel
theorem dX12_behind_5 : decode cX12_behind 5 = .ok (.iload_n 1, 1) := by decide +kernel
theorem dX12_behind_6 : decode cX12_behind 6 = .ok (.invokevirtual 149, 3) := by decide +kernel
theorem dX12_behind_9 : decode cX12_behind 9 = .ok (.iconst 0, 1) := by decide +kernel
theorem dX12_behind_10 : decode cX12_behind 10 = .ok (.istore_n 2, 1) := by decide +kernel
theorem dX12_behind_11 : decode cX12_behind 11 = .ok (.aload_n 0, 1) := by decide +kernel
theorem dX12_behind_12 : decode cX12_behind 12 = .ok (.aload_n 0, 1) := by decide +kernel
theorem dX12_behind_13 : decode cX12_behind 13 = .ok (.getfield 121, 3) := by decide +kernel
theorem dX12_behind_16 : decode cX12_behind 16 = .ok (.invokevirtual 152, 3) := by decide +kernel
theorem dX12_behind_19 : decode cX12_behind 19 = .ok (.ifCond .eq 79, 3) := by decide +kernel
theorem dX12_behind_22 : decode cX12_behind 22 = .ok (.bipush 35, 2) := by decide +kernel
theorem dX12_behind_24 : decode cX12_behind 24 = .ok (.istore_n 2, 1) := by decide +kernel
theorem dX12_behind_25 : decode cX12_behind 25 = .ok (.iconst 0, 1) := by decide +kernel
theorem dX12_behind_26 : decode cX12_behind 26 = .ok (.istore_n 3, 1) := by decide +kernel
theorem dX12_behind_27 : decode cX12_behind 27 = .ok (.iload_n 3, 1) := by decide +kernel
theorem dX12_behind_28 : decode cX12_behind 28 = .ok (.bipush 64, 2) := by decide +kernel
theorem dX12_behind_30 : decode cX12_behind 30 = .ok (.if_icmp .ge 68, 3) := by decide +kernel
theorem dX12_behind_33 : decode cX12_behind 33 = .ok (.iload_n 2, 1) := by decide +kernel
theorem dX12_behind_34 : decode cX12_behind 34 = .ok (.bipush 35, 2) := by decide +kernel
theorem dX12_behind_36 : decode cX12_behind 36 = .ok (.if_icmp .ne 62, 3) := by decide +kernel
theorem dX12_behind_39 : decode cX12_behind 39 = .ok (.iconst 0, 1) := by decide +kernel
theorem dX12_behind_40 : decode cX12_behind 40 = .ok (.istore 4, 2) := by decide +kernel
theorem dX12_behind_42 : decode cX12_behind 42 = .ok (.iload 4, 2) := by decide +kernel
theorem dX12_behind_44 : decode cX12_behind 44 = .ok (.bipush 64, 2) := by decide +kernel
theorem dX12_behind_46 : decode cX12_behind 46 = .ok (.if_icmp .ge 46, 3) := by decide +kernel
theorem dX12_behind_49 : decode cX12_behind 49 = .ok (.iload_n 2, 1) := by decide +kernel
theorem dX12_behind_50 : decode cX12_behind 50 = .ok (.bipush 35, 2) := by decide +kernel
theorem dX12_behind_52 : decode cX12_behind 52 = .ok (.if_icmp .ne 40, 3) := by decide +kernel
theorem dX12_behind_55 : decode cX12_behind 55 = .ok (.aload_n 0, 1) := by decide +kernel
theorem dX12_behind_56 : decode cX12_behind 56 = .ok (.iload_n 3, 1) := by decide +kernel
theorem dX12_behind_57 : decode cX12_behind 57 = .ok (.iload 4, 2) := by decide +kernel
theorem dX12_behind_59 : decode cX12_behind 59 = .ok (.invokevirtual 173, 3) := by decide +kernel
theorem dX12_behind_62 : decode cX12_behind 62 = .ok (.ifCond .eq 22, 3) := by decide +kernel
theorem dX12_behind_65 : decode cX12_behind 65 = .ok (.aload_n 0, 1) := by decide +kernel
theorem dX12_behind_66 : decode cX12_behind 66 = .ok (.iload_n 3, 1) := by decide +kernel
theorem dX12_behind_67 : decode cX12_behind 67 = .ok (.bipush 64, 2) := by decide +kernel
theorem dX12_behind_69 : decode cX12_behind 69 = .ok (.iload 4, 2) := by decide +kernel
theorem dX12_behind_71 : decode cX12_behind 71 = .ok (.imul, 1) := by decide +kernel
theorem dX12_behind_72 : decode cX12_behind 72 = .ok (.iadd, 1) := by decide +kernel
theorem dX12_behind_73 : decode cX12_behind 73 = .ok (.invokevirtual 208, 3) := by decide +kernel
theorem dX12_behind_76 : decode cX12_behind 76 = .ok (.ifCond .eq 8, 3) := by decide +kernel
theorem dX12_behind_79 : decode cX12_behind 79 = .ok (.bipush 43, 2) := by decide +kernel
theorem dX12_behind_81 : decode cX12_behind 81 = .ok (.goto 4, 3) := by decide +kernel
theorem dX12_behind_84 : decode cX12_behind 84 = .ok (.iload_n 2, 1) := by decide +kernel
theorem dX12_behind_85 : decode cX12_behind 85 = .ok (.istore_n 2, 1) := by decide +kernel
theorem dX12_behind_86 : decode cX12_behind 86 = .ok (.iinc 4 1, 3) := by decide +kernel
theorem dX12_behind_89 : decode cX12_behind 89 = .ok (.goto (-47), 3) := by decide +kernel
theorem dX12_behind_92 : decode cX12_behind 92 = .ok (.iinc 3 1, 3) := by decide +kernel
theorem dX12_behind_95 : decode cX12_behind 95 = .ok (.goto (-68), 3) := by decide +kernel
theorem dX12_behind_98 : decode cX12_behind 98 = .ok (.aload_n 0, 1) := by decide +kernel
theorem dX12_behind_99 : decode cX12_behind 99 = .ok (.invokevirtual 155, 3) := by decide +kernel
theorem dX12_behind_102 : decode cX12_behind 102 = .ok (.iload_n 2, 1) := by decide +kernel
theorem dX12_behind_103 : decode cX12_behind 103 = .ok (.ireturn, 1) := by decide +kernel
theorem dX12_isSafeOnce_0 : decode cX12_isSafeOnce 0 = .ok (.iload_n 1, 1) := by decide +kernel
theorem dX12_isSafeOnce_1 : decode cX12_isSafeOnce 1 = .ok (.bipush 64, 2) := by decide +kernel
theorem dX12_isSafeOnce_3 : decode cX12_isSafeOnce 3 = .ok (.irem, 1) := by decide +kernel
theorem dX12_isSafeOnce_4 : decode cX12_isSafeOnce 4 = .ok (.istore_n 2, 1) := by decide +kernel
theorem dX12_isSafeOnce_5 : decode cX12_isSafeOnce 5 = .ok (.iload_n 1, 1) := by decide +kernel
theorem dX12_isSafeOnce_6 : decode cX12_isSafeOnce 6 = .ok (.bipush 64, 2) := by decide +kernel
theorem dX12_isSafeOnce_8 : decode cX12_isSafeOnce 8 = .ok (.idiv, 1) := by decide +kernel
theorem dX12_isSafeOnce_9 : decode cX12_isSafeOnce 9 = .ok (.bipush 64, 2) := by decide +kernel
theorem dX12_isSafeOnce_11 : decode cX12_isSafeOnce 11 = .ok (.irem, 1) := by decide +kernel
theorem dX12_isSafeOnce_12 : decode cX12_isSafeOnce 12 = .ok (.istore_n 3, 1) := by decide +kernel
theorem dX12_isSafeOnce_13 : decode cX12_isSafeOnce 13 = .ok (.aload_n 0, 1) := by decide +kernel
theorem dX12_isSafeOnce_14 : decode cX12_isSafeOnce 14 = .ok (.getfield 70, 3) := by decide +kernel
theorem dX12_isSafeOnce_17 : decode cX12_isSafeOnce 17 = .ok (.iload_n 2, 1) := by decide +kernel
theorem dX12_isSafeOnce_18 : decode cX12_isSafeOnce 18 = .ok (.iaload, 1) := by decide +kernel
theorem dX12_isSafeOnce_19 : decode cX12_isSafeOnce 19 = .ok (.istore 4, 2) := by decide +kernel
theorem dX12_isSafeOnce_21 : decode cX12_isSafeOnce 21 = .ok (.aload_n 0, 1) := by decide +kernel
theorem dX12_isSafeOnce_22 : decode cX12_isSafeOnce 22 = .ok (.getfield 70, 3) := by decide +kernel
theorem dX12_isSafeOnce_25 : decode cX12_isSafeOnce 25 = .ok (.iload_n 3, 1) := by decide +kernel
theorem dX12_isSafeOnce_26 : decode cX12_isSafeOnce 26 = .ok (.iaload, 1) := by decide +kernel
theorem dX12_isSafeOnce_27 : decode cX12_isSafeOnce 27 = .ok (.istore 5, 2) := by decide +kernel
theorem dX12_isSafeOnce_29 : decode cX12_isSafeOnce 29 = .ok (.iload_n 2, 1) := by decide +kernel
theorem dX12_isSafeOnce_30 : decode cX12_isSafeOnce 30 = .ok (.bipush 8, 2) := by decide +kernel
theorem dX12_isSafeOnce_32 : decode cX12_isSafeOnce 32 = .ok (.idiv, 1) := by decide +kernel
theorem dX12_isSafeOnce_33 : decode cX12_isSafeOnce 33 = .ok (.bipush 8, 2) := by decide +kernel
theorem dX12_isSafeOnce_35 : decode cX12_isSafeOnce 35 = .ok (.imul, 1) := by decide +kernel
theorem dX12_isSafeOnce_36 : decode cX12_isSafeOnce 36 = .ok (.iload_n 3, 1) := by decide +kernel
theorem dX12_isSafeOnce_37 : decode cX12_isSafeOnce 37 = .ok (.bipush 8, 2) := by decide +kernel
theorem dX12_isSafeOnce_39 : decode cX12_isSafeOnce 39 = .ok (.irem, 1) := by decide +kernel
theorem dX12_isSafeOnce_40 : decode cX12_isSafeOnce 40 = .ok (.iadd, 1) := by decide +kernel
theorem dX12_isSafeOnce_41 : decode cX12_isSafeOnce 41 = .ok (.istore 6, 2) := by decide +kernel
theorem dX12_isSafeOnce_43 : decode cX12_isSafeOnce 43 = .ok (.iload 4, 2) := by decide +kernel
theorem dX12_isSafeOnce_45 : decode cX12_isSafeOnce 45 = .ok (.invokestatic 136, 3) := by decide +kernel
theorem dX12_isSafeOnce_48 : decode cX12_isSafeOnce 48 = .ok (.iconst 1, 1) := by decide +kernel
theorem dX12_isSafeOnce_49 : decode cX12_isSafeOnce 49 = .ok (.if_icmp .ne 23, 3) := by decide +kernel
theorem dX12_isSafeOnce_52 : decode cX12_isSafeOnce 52 = .ok (.iload 5, 2) := by decide +kernel
theorem dX12_isSafeOnce_54 : decode cX12_isSafeOnce 54 = .ok (.ifCond .ne 18, 3) := by decide +kernel
theorem dX12_isSafeOnce_57 : decode cX12_isSafeOnce 57 = .ok (.iload_n 2, 1) := by decide +kernel
theorem dX12_isSafeOnce_58 : decode cX12_isSafeOnce 58 = .ok (.bipush 8, 2) := by decide +kernel
theorem dX12_isSafeOnce_60 : decode cX12_isSafeOnce 60 = .ok (.irem, 1) := by decide +kernel
theorem dX12_isSafeOnce_61 : decode cX12_isSafeOnce 61 = .ok (.iload_n 3, 1) := by decide +kernel
theorem dX12_isSafeOnce_62 : decode cX12_isSafeOnce 62 = .ok (.bipush 8, 2) := by decide +kernel
theorem dX12_isSafeOnce_64 : decode cX12_isSafeOnce 64 = .ok (.irem, 1) := by decide +kernel
theorem dX12_isSafeOnce_65 : decode cX12_isSafeOnce 65 = .ok (.if_icmp .eq 7, 3) := by decide +kernel
theorem dX12_isSafeOnce_68 : decode cX12_isSafeOnce 68 = .ok (.iconst 1, 1) := by decide +kernel
theorem dX12_isSafeOnce_69 : decode cX12_isSafeOnce 69 = .ok (.goto 4, 3) := by decide +kernel
theorem dX12_isSafeOnce_72 : decode cX12_isSafeOnce 72 = .ok (.iconst 0, 1) := by decide +kernel
theorem dX12_isSafeOnce_73 : decode cX12_isSafeOnce 73 = .ok (.istore 7, 2) := by decide +kernel
theorem dX12_isSafeOnce_75 : decode cX12_isSafeOnce 75 = .ok (.iload 7, 2) := by decide +kernel
theorem dX12_isSafeOnce_77 : decode cX12_isSafeOnce 77 = .ok (.ifCond .eq 13, 3) := by decide +kernel
theorem dX12_isSafeOnce_80 : decode cX12_isSafeOnce 80 = .ok (.aload_n 0, 1) := by decide +kernel
theorem dX12_isSafeOnce_81 : decode cX12_isSafeOnce 81 = .ok (.getfield 70, 3) := by decide +kernel
theorem dX12_isSafeOnce_84 : decode cX12_isSafeOnce 84 = .ok (.iload 6, 2) := by decide +kernel
theorem dX12_isSafeOnce_86 : decode cX12_isSafeOnce 86 = .ok (.iaload, 1) := by decide +kernel
theorem dX12_isSafeOnce_87 : decode cX12_isSafeOnce 87 = .ok (.goto 4, 3) := by decide +kernel
theorem dX12_isSafeOnce_90 : decode cX12_isSafeOnce 90 = .ok (.iconst 0, 1) := by decide +kernel
theorem dX12_isSafeOnce_91 : decode cX12_isSafeOnce 91 = .ok (.istore 8, 2) := by decide +kernel
theorem dX12_isSafeOnce_93 : decode cX12_isSafeOnce 93 = .ok (.aload_n 0, 1) := by decide +kernel
theorem dX12_isSafeOnce_94 : decode cX12_isSafeOnce 94 = .ok (.getfield 70, 3) := by decide +kernel
theorem dX12_isSafeOnce_97 : decode cX12_isSafeOnce 97 = .ok (.iload_n 2, 1) := by decide +kernel
theorem dX12_isSafeOnce_98 : decode cX12_isSafeOnce 98 = .ok (.iconst 0, 1) := by decide +kernel
theorem dX12_isSafeOnce_99 : decode cX12_isSafeOnce 99 = .ok (.iastore, 1) := by decide +kernel
theorem dX12_isSafeOnce_100 : decode cX12_isSafeOnce 100 = .ok (.aload_n 0, 1) := by decide +kernel
theorem dX12_isSafeOnce_101 : decode cX12_isSafeOnce 101 = .ok (.getfield 70, 3) := by decide +kernel
theorem dX12_isSafeOnce_104 : decode cX12_isSafeOnce 104 = .ok (.iload_n 3, 1) := by decide +kernel
theorem dX12_isSafeOnce_105 : decode cX12_isSafeOnce 105 = .ok (.iload 4, 2) := by decide +kernel
theorem dX12_isSafeOnce_107 : decode cX12_isSafeOnce 107 = .ok (.iastore, 1) := by decide +kernel
theorem dX12_isSafeOnce_108 : decode cX12_isSafeOnce 108 = .ok (.iload 7, 2) := by decide +kernel
theorem dX12_isSafeOnce_110 : decode cX12_isSafeOnce 110 = .ok (.ifCond .eq 11, 3) := by decide +kernel
theorem dX12_isSafeOnce_113 : decode cX12_isSafeOnce 113 = .ok (.aload_n 0, 1) := by decide +kernel
theorem dX12_isSafeOnce_114 : decode cX12_isSafeOnce 114 = .ok (.getfield 70, 3) := by decide +kernel
theorem dX12_isSafeOnce_117 : decode cX12_isSafeOnce 117 = .ok (.iload 6, 2) := by decide +kernel
theorem dX12_isSafeOnce_119 : decode cX12_isSafeOnce 119 = .ok (.iconst 0, 1) := by decide +kernel
theorem dX12_isSafeOnce_120 : decode cX12_isSafeOnce 120 = .ok (.iastore, 1) := by decide +kernel
theorem dX12_isSafeOnce_121 : decode cX12_isSafeOnce 121 = .ok (.aload_n 0, 1) := by decide +kernel
theorem dX12_isSafeOnce_122 : decode cX12_isSafeOnce 122 = .ok (.aload_n 0, 1) := by decide +kernel
theorem dX12_isSafeOnce_123 : decode cX12_isSafeOnce 123 = .ok (.getfield 121, 3) := by decide +kernel
theorem dX12_isSafeOnce_126 : decode cX12_isSafeOnce 126 = .ok (.invokevirtual 152, 3) := by decide +kernel
theorem dX12_isSafeOnce_129 : decode cX12_isSafeOnce 129 = .ok (.ifCond .ne 7, 3) := by decide +kernel
theorem dX12_isSafeOnce_132 : decode cX12_isSafeOnce 132 = .ok (.iconst 1, 1) := by decide +kernel
theorem dX12_isSafeOnce_133 : decode cX12_isSafeOnce 133 = .ok (.goto 4, 3) := by decide +kernel
theorem dX12_isSafeOnce_136 : decode cX12_isSafeOnce 136 = .ok (.iconst 0, 1) := by decide +kernel
theorem dX12_isSafeOnce_137 : decode cX12_isSafeOnce 137 = .ok (.istore 9, 2) := by decide +kernel
theorem dX12_isSafeOnce_139 : decode cX12_isSafeOnce 139 = .ok (.aload_n 0, 1) := by decide +kernel
theorem dX12_isSafeOnce_140 : decode cX12_isSafeOnce 140 = .ok (.getfield 70, 3) := by decide +kernel
theorem dX12_isSafeOnce_143 : decode cX12_isSafeOnce 143 = .ok (.iload_n 2, 1) := by decide +kernel
theorem dX12_isSafeOnce_144 : decode cX12_isSafeOnce 144 = .ok (.iload 4, 2) := by decide +kernel
theorem dX12_isSafeOnce_146 : decode cX12_isSafeOnce 146 = .ok (.iastore, 1) := by decide +kernel
theorem dX12_isSafeOnce_147 : decode cX12_isSafeOnce 147 = .ok (.aload_n 0, 1) := by decide +kernel
theorem dX12_isSafeOnce_148 : decode cX12_isSafeOnce 148 = .ok (.getfield 70, 3) := by decide +kernel
theorem dX12_isSafeOnce_151 : decode cX12_isSafeOnce 151 = .ok (.iload_n 3, 1) := by decide +kernel
theorem dX12_isSafeOnce_152 : decode cX12_isSafeOnce 152 = .ok (.iload 5, 2) := by decide +kernel
theorem dX12_isSafeOnce_154 : decode cX12_isSafeOnce 154 = .ok (.iastore, 1) := by decide +kernel
theorem dX12_isSafeOnce_155 : decode cX12_isSafeOnce 155 = .ok (.iload 7, 2) := by decide +kernel
theorem dX12_isSafeOnce_157 : decode cX12_isSafeOnce 157 = .ok (.ifCond .eq 12, 3) := by decide +kernel
theorem dX12_isSafeOnce_160 : decode cX12_isSafeOnce 160 = .ok (.aload_n 0, 1) := by decide +kernel
theorem dX12_isSafeOnce_161 : decode cX12_isSafeOnce 161 = .ok (.getfield 70, 3) := by decide +kernel
theorem dX12_isSafeOnce_164 : decode cX12_isSafeOnce 164 = .ok (.iload 6, 2) := by decide +kernel
theorem dX12_isSafeOnce_166 : decode cX12_isSafeOnce 166 = .ok (.iload 8, 2) := by decide +kernel
theorem dX12_isSafeOnce_168 : decode cX12_isSafeOnce 168 = .ok (.iastore, 1) := by decide +kernel
theorem dX12_isSafeOnce_169 : decode cX12_isSafeOnce 169 = .ok (.iload 9, 2) := by decide +kernel
theorem dX12_isSafeOnce_171 : decode cX12_isSafeOnce 171 = .ok (.ireturn, 1) := by decide +kernel
theorem dX12_apartOf_0 : decode cX12_apartOf 0 = .ok (.iload_n 1, 1) := by decide +kernel
theorem dX12_apartOf_1 : decode cX12_apartOf 1 = .ok (.bipush 64, 2) := by decide +kernel
theorem dX12_apartOf_3 : decode cX12_apartOf 3 = .ok (.irem, 1) := by decide +kernel
theorem dX12_apartOf_4 : decode cX12_apartOf 4 = .ok (.istore_n 2, 1) := by decide +kernel
theorem dX12_apartOf_5 : decode cX12_apartOf 5 = .ok (.aload_n 0, 1) := by decide +kernel
theorem dX12_apartOf_6 : decode cX12_apartOf 6 = .ok (.getfield 70, 3) := by decide +kernel
theorem dX12_apartOf_9 : decode cX12_apartOf 9 = .ok (.iload_n 2, 1) := by decide +kernel
theorem dX12_apartOf_10 : decode cX12_apartOf 10 = .ok (.iaload, 1) := by decide +kernel
theorem dX12_apartOf_11 : decode cX12_apartOf 11 = .ok (.invokestatic 136, 3) := by decide +kernel
theorem dX12_apartOf_14 : decode cX12_apartOf 14 = .ok (.istore_n 3, 1) := by decide +kernel
theorem dX12_apartOf_15 : decode cX12_apartOf 15 = .ok (.iload_n 3, 1) := by decide +kernel
theorem dX12_apartOf_16 : decode cX12_apartOf 16 = .ok (.iconst 1, 1) := by decide +kernel
theorem dX12_apartOf_17 : decode cX12_apartOf 17 = .ok (.if_icmp .ne 17, 3) := by decide +kernel
theorem dX12_apartOf_20 : decode cX12_apartOf 20 = .ok (.aload_n 0, 1) := by decide +kernel
theorem dX12_apartOf_21 : decode cX12_apartOf 21 = .ok (.iload_n 1, 1) := by decide +kernel
theorem dX12_apartOf_22 : decode cX12_apartOf 22 = .ok (.invokevirtual 139, 3) := by decide +kernel
theorem dX12_apartOf_25 : decode cX12_apartOf 25 = .ok (.ifCond .eq 7, 3) := by decide +kernel
theorem dX12_apartOf_28 : decode cX12_apartOf 28 = .ok (.iconst 1, 1) := by decide +kernel
theorem dX12_apartOf_29 : decode cX12_apartOf 29 = .ok (.goto 4, 3) := by decide +kernel
theorem dX12_apartOf_32 : decode cX12_apartOf 32 = .ok (.iconst 0, 1) := by decide +kernel
theorem dX12_apartOf_33 : decode cX12_apartOf 33 = .ok (.ireturn, 1) := by decide +kernel
theorem dX12_apartOf_34 : decode cX12_apartOf 34 = .ok (.iconst 0, 1) := by decide +kernel
theorem dX12_apartOf_35 : decode cX12_apartOf 35 = .ok (.istore 4, 2) := by decide +kernel
theorem dX12_apartOf_37 : decode cX12_apartOf 37 = .ok (.iconst 0, 1) := by decide +kernel
theorem dX12_apartOf_38 : decode cX12_apartOf 38 = .ok (.istore 5, 2) := by decide +kernel
theorem dX12_apartOf_40 : decode cX12_apartOf 40 = .ok (.iconst 0, 1) := by decide +kernel
theorem dX12_apartOf_41 : decode cX12_apartOf 41 = .ok (.istore 6, 2) := by decide +kernel
theorem dX12_apartOf_43 : decode cX12_apartOf 43 = .ok (.iconst 0, 1) := by decide +kernel
theorem dX12_apartOf_44 : decode cX12_apartOf 44 = .ok (.istore 7, 2) := by decide +kernel
theorem dX12_apartOf_46 : decode cX12_apartOf 46 = .ok (.iload 7, 2) := by decide +kernel
theorem dX12_apartOf_48 : decode cX12_apartOf 48 = .ok (.aload_n 0, 1) := by decide +kernel
theorem dX12_apartOf_49 : decode cX12_apartOf 49 = .ok (.getfield 170, 3) := by decide +kernel
theorem dX12_apartOf_52 : decode cX12_apartOf 52 = .ok (.if_icmp .ge 115, 3) := by decide +kernel
theorem dX12_apartOf_55 : decode cX12_apartOf 55 = .ok (.aload_n 0, 1) := by decide +kernel
theorem dX12_apartOf_56 : decode cX12_apartOf 56 = .ok (.getfield 79, 3) := by decide +kernel
theorem dX12_apartOf_59 : decode cX12_apartOf 59 = .ok (.iload 7, 2) := by decide +kernel
theorem dX12_apartOf_61 : decode cX12_apartOf 61 = .ok (.iaload, 1) := by decide +kernel
theorem dX12_apartOf_62 : decode cX12_apartOf 62 = .ok (.bipush 64, 2) := by decide +kernel
theorem dX12_apartOf_64 : decode cX12_apartOf 64 = .ok (.irem, 1) := by decide +kernel
theorem dX12_apartOf_65 : decode cX12_apartOf 65 = .ok (.istore 8, 2) := by decide +kernel
theorem dX12_apartOf_67 : decode cX12_apartOf 67 = .ok (.iload 8, 2) := by decide +kernel
theorem dX12_apartOf_69 : decode cX12_apartOf 69 = .ok (.iload_n 2, 1) := by decide +kernel
theorem dX12_apartOf_70 : decode cX12_apartOf 70 = .ok (.if_icmp .eq 91, 3) := by decide +kernel
theorem dX12_apartOf_73 : decode cX12_apartOf 73 = .ok (.aload_n 0, 1) := by decide +kernel
theorem dX12_apartOf_74 : decode cX12_apartOf 74 = .ok (.getfield 79, 3) := by decide +kernel
theorem dX12_apartOf_77 : decode cX12_apartOf 77 = .ok (.iload 7, 2) := by decide +kernel
theorem dX12_apartOf_79 : decode cX12_apartOf 79 = .ok (.iaload, 1) := by decide +kernel
theorem dX12_apartOf_80 : decode cX12_apartOf 80 = .ok (.bipush 64, 2) := by decide +kernel
theorem dX12_apartOf_82 : decode cX12_apartOf 82 = .ok (.idiv, 1) := by decide +kernel
theorem dX12_apartOf_83 : decode cX12_apartOf 83 = .ok (.bipush 64, 2) := by decide +kernel
theorem dX12_apartOf_85 : decode cX12_apartOf 85 = .ok (.irem, 1) := by decide +kernel
theorem dX12_apartOf_86 : decode cX12_apartOf 86 = .ok (.iload_n 1, 1) := by decide +kernel
theorem dX12_apartOf_87 : decode cX12_apartOf 87 = .ok (.bipush 64, 2) := by decide +kernel
theorem dX12_apartOf_89 : decode cX12_apartOf 89 = .ok (.idiv, 1) := by decide +kernel
theorem dX12_apartOf_90 : decode cX12_apartOf 90 = .ok (.bipush 64, 2) := by decide +kernel
theorem dX12_apartOf_92 : decode cX12_apartOf 92 = .ok (.irem, 1) := by decide +kernel
theorem dX12_apartOf_93 : decode cX12_apartOf 93 = .ok (.if_icmp .ne 68, 3) := by decide +kernel
theorem dX12_apartOf_96 : decode cX12_apartOf 96 = .ok (.aload_n 0, 1) := by decide +kernel
theorem dX12_apartOf_97 : decode cX12_apartOf 97 = .ok (.getfield 70, 3) := by decide +kernel
theorem dX12_apartOf_100 : decode cX12_apartOf 100 = .ok (.iload 8, 2) := by decide +kernel
theorem dX12_apartOf_102 : decode cX12_apartOf 102 = .ok (.iaload, 1) := by decide +kernel
theorem dX12_apartOf_103 : decode cX12_apartOf 103 = .ok (.invokestatic 136, 3) := by decide +kernel
theorem dX12_apartOf_106 : decode cX12_apartOf 106 = .ok (.iload_n 3, 1) := by decide +kernel
theorem dX12_apartOf_107 : decode cX12_apartOf 107 = .ok (.if_icmp .ne 54, 3) := by decide +kernel
theorem dX12_apartOf_110 : decode cX12_apartOf 110 = .ok (.iconst 1, 1) := by decide +kernel
theorem dX12_apartOf_111 : decode cX12_apartOf 111 = .ok (.istore 4, 2) := by decide +kernel
theorem dX12_apartOf_113 : decode cX12_apartOf 113 = .ok (.iload 5, 2) := by decide +kernel
theorem dX12_apartOf_115 : decode cX12_apartOf 115 = .ok (.ifCond .ne 15, 3) := by decide +kernel
theorem dX12_apartOf_118 : decode cX12_apartOf 118 = .ok (.iload 8, 2) := by decide +kernel
theorem dX12_apartOf_120 : decode cX12_apartOf 120 = .ok (.bipush 8, 2) := by decide +kernel
theorem dX12_apartOf_122 : decode cX12_apartOf 122 = .ok (.irem, 1) := by decide +kernel
theorem dX12_apartOf_123 : decode cX12_apartOf 123 = .ok (.iload_n 2, 1) := by decide +kernel
theorem dX12_apartOf_124 : decode cX12_apartOf 124 = .ok (.bipush 8, 2) := by decide +kernel
theorem dX12_apartOf_126 : decode cX12_apartOf 126 = .ok (.irem, 1) := by decide +kernel
theorem dX12_apartOf_127 : decode cX12_apartOf 127 = .ok (.if_icmp .ne 7, 3) := by decide +kernel
theorem dX12_apartOf_130 : decode cX12_apartOf 130 = .ok (.iconst 1, 1) := by decide +kernel
theorem dX12_apartOf_131 : decode cX12_apartOf 131 = .ok (.goto 4, 3) := by decide +kernel
theorem dX12_apartOf_134 : decode cX12_apartOf 134 = .ok (.iconst 0, 1) := by decide +kernel
theorem dX12_apartOf_135 : decode cX12_apartOf 135 = .ok (.istore 5, 2) := by decide +kernel
theorem dX12_apartOf_137 : decode cX12_apartOf 137 = .ok (.iload 6, 2) := by decide +kernel
theorem dX12_apartOf_139 : decode cX12_apartOf 139 = .ok (.ifCond .ne 15, 3) := by decide +kernel
theorem dX12_apartOf_142 : decode cX12_apartOf 142 = .ok (.iload 8, 2) := by decide +kernel
theorem dX12_apartOf_144 : decode cX12_apartOf 144 = .ok (.bipush 8, 2) := by decide +kernel
theorem dX12_apartOf_146 : decode cX12_apartOf 146 = .ok (.idiv, 1) := by decide +kernel
theorem dX12_apartOf_147 : decode cX12_apartOf 147 = .ok (.iload_n 2, 1) := by decide +kernel
theorem dX12_apartOf_148 : decode cX12_apartOf 148 = .ok (.bipush 8, 2) := by decide +kernel
theorem dX12_apartOf_150 : decode cX12_apartOf 150 = .ok (.idiv, 1) := by decide +kernel
theorem dX12_apartOf_151 : decode cX12_apartOf 151 = .ok (.if_icmp .ne 7, 3) := by decide +kernel
theorem dX12_apartOf_154 : decode cX12_apartOf 154 = .ok (.iconst 1, 1) := by decide +kernel
theorem dX12_apartOf_155 : decode cX12_apartOf 155 = .ok (.goto 4, 3) := by decide +kernel
theorem dX12_apartOf_158 : decode cX12_apartOf 158 = .ok (.iconst 0, 1) := by decide +kernel
theorem dX12_apartOf_159 : decode cX12_apartOf 159 = .ok (.istore 6, 2) := by decide +kernel
theorem dX12_apartOf_161 : decode cX12_apartOf 161 = .ok (.iinc 7 1, 3) := by decide +kernel
theorem dX12_apartOf_164 : decode cX12_apartOf 164 = .ok (.goto (-118), 3) := by decide +kernel
theorem dX12_apartOf_167 : decode cX12_apartOf 167 = .ok (.iload 4, 2) := by decide +kernel
theorem dX12_apartOf_169 : decode cX12_apartOf 169 = .ok (.ifCond .ne 7, 3) := by decide +kernel
theorem dX12_apartOf_172 : decode cX12_apartOf 172 = .ok (.iconst 0, 1) := by decide +kernel
theorem dX12_apartOf_173 : decode cX12_apartOf 173 = .ok (.goto 22, 3) := by decide +kernel
theorem dX12_apartOf_176 : decode cX12_apartOf 176 = .ok (.iload 5, 2) := by decide +kernel
theorem dX12_apartOf_178 : decode cX12_apartOf 178 = .ok (.ifCond .ne 7, 3) := by decide +kernel
theorem dX12_apartOf_181 : decode cX12_apartOf 181 = .ok (.iconst 1, 1) := by decide +kernel
theorem dX12_apartOf_182 : decode cX12_apartOf 182 = .ok (.goto 13, 3) := by decide +kernel
theorem dX12_apartOf_185 : decode cX12_apartOf 185 = .ok (.iload 6, 2) := by decide +kernel
theorem dX12_apartOf_187 : decode cX12_apartOf 187 = .ok (.ifCond .ne 7, 3) := by decide +kernel
theorem dX12_apartOf_190 : decode cX12_apartOf 190 = .ok (.iconst 2, 1) := by decide +kernel
theorem dX12_apartOf_191 : decode cX12_apartOf 191 = .ok (.goto 4, 3) := by decide +kernel
theorem dX12_apartOf_194 : decode cX12_apartOf 194 = .ok (.iconst 3, 1) := by decide +kernel
theorem dX12_apartOf_195 : decode cX12_apartOf 195 = .ok (.ireturn, 1) := by decide +kernel
theorem dX12_spellWhole_0 : decode cX12_spellWhole 0 = .ok (.aload_n 0, 1) := by decide +kernel
theorem dX12_spellWhole_1 : decode cX12_spellWhole 1 = .ok (.iload_n 1, 1) := by decide +kernel
theorem dX12_spellWhole_2 : decode cX12_spellWhole 2 = .ok (.aload_n 0, 1) := by decide +kernel
theorem dX12_spellWhole_3 : decode cX12_spellWhole 3 = .ok (.iload_n 1, 1) := by decide +kernel
theorem dX12_spellWhole_4 : decode cX12_spellWhole 4 = .ok (.invokevirtual 211, 3) := by decide +kernel
theorem dX12_spellWhole_7 : decode cX12_spellWhole 7 = .ok (.aload_n 0, 1) := by decide +kernel
theorem dX12_spellWhole_8 : decode cX12_spellWhole 8 = .ok (.iload_n 1, 1) := by decide +kernel
theorem dX12_spellWhole_9 : decode cX12_spellWhole 9 = .ok (.invokevirtual 139, 3) := by decide +kernel
theorem dX12_spellWhole_12 : decode cX12_spellWhole 12 = .ok (.invokevirtual 214, 3) := by decide +kernel
theorem dX12_spellWhole_15 : decode cX12_spellWhole 15 = .ok (.aload_n 0, 1) := by decide +kernel
theorem dX12_spellWhole_16 : decode cX12_spellWhole 16 = .ok (.iload_n 1, 1) := by decide +kernel
theorem dX12_spellWhole_17 : decode cX12_spellWhole 17 = .ok (.invokevirtual 218, 3) := by decide +kernel
theorem dX12_spellWhole_20 : decode cX12_spellWhole 20 = .ok (.istore_n 2, 1) := by decide +kernel
theorem dX12_spellWhole_21 : decode cX12_spellWhole 21 = .ok (.iload_n 2, 1) := by decide +kernel
theorem dX12_spellWhole_22 : decode cX12_spellWhole 22 = .ok (.ifCond .eq 8, 3) := by decide +kernel
theorem dX12_spellWhole_25 : decode cX12_spellWhole 25 = .ok (.aload_n 0, 1) := by decide +kernel
theorem dX12_spellWhole_26 : decode cX12_spellWhole 26 = .ok (.iload_n 2, 1) := by decide +kernel
theorem dX12_spellWhole_27 : decode cX12_spellWhole 27 = .ok (.invokevirtual 194, 3) := by decide +kernel
theorem dX12_spellWhole_30 : decode cX12_spellWhole 30 = .ok (.return_, 1) := by decide +kernel
theorem dX12_isSpelled_0 : decode cX12_isSpelled 0 = .ok (.iconst 0, 1) := by decide +kernel
theorem dX12_isSpelled_1 : decode cX12_isSpelled 1 = .ok (.istore 4, 2) := by decide +kernel
theorem dX12_isSpelled_3 : decode cX12_isSpelled 3 = .ok (.iload_n 1, 1) := by decide +kernel
theorem dX12_isSpelled_4 : decode cX12_isSpelled 4 = .ok (.istore 5, 2) := by decide +kernel
theorem dX12_isSpelled_6 : decode cX12_isSpelled 6 = .ok (.iload 5, 2) := by decide +kernel
theorem dX12_isSpelled_8 : decode cX12_isSpelled 8 = .ok (.iload_n 2, 1) := by decide +kernel
theorem dX12_isSpelled_9 : decode cX12_isSpelled 9 = .ok (.if_icmp .ge 69, 3) := by decide +kernel
theorem dX12_isSpelled_12 : decode cX12_isSpelled 12 = .ok (.aload_n 0, 1) := by decide +kernel
theorem dX12_isSpelled_13 : decode cX12_isSpelled 13 = .ok (.getfield 7, 3) := by decide +kernel
theorem dX12_isSpelled_16 : decode cX12_isSpelled 16 = .ok (.iload 5, 2) := by decide +kernel
theorem dX12_isSpelled_18 : decode cX12_isSpelled 18 = .ok (.caload, 1) := by decide +kernel
theorem dX12_isSpelled_19 : decode cX12_isSpelled 19 = .ok (.istore 6, 2) := by decide +kernel
theorem dX12_isSpelled_21 : decode cX12_isSpelled 21 = .ok (.iload_n 3, 1) := by decide +kernel
theorem dX12_isSpelled_22 : decode cX12_isSpelled 22 = .ok (.ifCond .eq 24, 3) := by decide +kernel
theorem dX12_isSpelled_25 : decode cX12_isSpelled 25 = .ok (.iload 6, 2) := by decide +kernel
theorem dX12_isSpelled_27 : decode cX12_isSpelled 27 = .ok (.bipush 120, 2) := by decide +kernel
theorem dX12_isSpelled_29 : decode cX12_isSpelled 29 = .ok (.if_icmp .eq 43, 3) := by decide +kernel
theorem dX12_isSpelled_32 : decode cX12_isSpelled 32 = .ok (.iload 6, 2) := by decide +kernel
theorem dX12_isSpelled_34 : decode cX12_isSpelled 34 = .ok (.bipush 43, 2) := by decide +kernel
theorem dX12_isSpelled_36 : decode cX12_isSpelled 36 = .ok (.if_icmp .eq 36, 3) := by decide +kernel
theorem dX12_isSpelled_39 : decode cX12_isSpelled 39 = .ok (.iload 6, 2) := by decide +kernel
theorem dX12_isSpelled_41 : decode cX12_isSpelled 41 = .ok (.bipush 35, 2) := by decide +kernel
theorem dX12_isSpelled_43 : decode cX12_isSpelled 43 = .ok (.if_icmp .eq 29, 3) := by decide +kernel
theorem dX12_isSpelled_46 : decode cX12_isSpelled 46 = .ok (.iload 4, 2) := by decide +kernel
theorem dX12_isSpelled_48 : decode cX12_isSpelled 48 = .ok (.aload_n 0, 1) := by decide +kernel
theorem dX12_isSpelled_49 : decode cX12_isSpelled 49 = .ok (.getfield 191, 3) := by decide +kernel
theorem dX12_isSpelled_52 : decode cX12_isSpelled 52 = .ok (.if_icmp .eq 15, 3) := by decide +kernel
theorem dX12_isSpelled_55 : decode cX12_isSpelled 55 = .ok (.aload_n 0, 1) := by decide +kernel
theorem dX12_isSpelled_56 : decode cX12_isSpelled 56 = .ok (.getfield 85, 3) := by decide +kernel
theorem dX12_isSpelled_59 : decode cX12_isSpelled 59 = .ok (.iload 4, 2) := by decide +kernel
theorem dX12_isSpelled_61 : decode cX12_isSpelled 61 = .ok (.caload, 1) := by decide +kernel
theorem dX12_isSpelled_62 : decode cX12_isSpelled 62 = .ok (.iload 6, 2) := by decide +kernel
theorem dX12_isSpelled_64 : decode cX12_isSpelled 64 = .ok (.if_icmp .eq 5, 3) := by decide +kernel
theorem dX12_isSpelled_67 : decode cX12_isSpelled 67 = .ok (.iconst 0, 1) := by decide +kernel
theorem dX12_isSpelled_68 : decode cX12_isSpelled 68 = .ok (.ireturn, 1) := by decide +kernel
theorem dX12_isSpelled_69 : decode cX12_isSpelled 69 = .ok (.iinc 4 1, 3) := by decide +kernel
theorem dX12_isSpelled_72 : decode cX12_isSpelled 72 = .ok (.iinc 5 1, 3) := by decide +kernel
theorem dX12_isSpelled_75 : decode cX12_isSpelled 75 = .ok (.goto (-69), 3) := by decide +kernel
theorem dX12_isSpelled_78 : decode cX12_isSpelled 78 = .ok (.iload 4, 2) := by decide +kernel
theorem dX12_isSpelled_80 : decode cX12_isSpelled 80 = .ok (.aload_n 0, 1) := by decide +kernel
theorem dX12_isSpelled_81 : decode cX12_isSpelled 81 = .ok (.getfield 191, 3) := by decide +kernel
theorem dX12_isSpelled_84 : decode cX12_isSpelled 84 = .ok (.if_icmp .ne 7, 3) := by decide +kernel
theorem dX12_isSpelled_87 : decode cX12_isSpelled 87 = .ok (.iconst 1, 1) := by decide +kernel
theorem dX12_isSpelled_88 : decode cX12_isSpelled 88 = .ok (.goto 4, 3) := by decide +kernel
theorem dX12_isSpelled_91 : decode cX12_isSpelled 91 = .ok (.iconst 0, 1) := by decide +kernel
theorem dX12_isSpelled_92 : decode cX12_isSpelled 92 = .ok (.ireturn, 1) := by decide +kernel
theorem dX12_fits_0 : decode cX12_fits 0 = .ok (.aload_n 0, 1) := by decide +kernel
theorem dX12_fits_1 : decode cX12_fits 1 = .ok (.getfield 70, 3) := by decide +kernel
theorem dX12_fits_4 : decode cX12_fits 4 = .ok (.iload_n 1, 1) := by decide +kernel
theorem dX12_fits_5 : decode cX12_fits 5 = .ok (.bipush 64, 2) := by decide +kernel
theorem dX12_fits_7 : decode cX12_fits 7 = .ok (.irem, 1) := by decide +kernel
theorem dX12_fits_8 : decode cX12_fits 8 = .ok (.iaload, 1) := by decide +kernel
theorem dX12_fits_9 : decode cX12_fits 9 = .ok (.invokestatic 136, 3) := by decide +kernel
theorem dX12_fits_12 : decode cX12_fits 12 = .ok (.istore 5, 2) := by decide +kernel
theorem dX12_fits_14 : decode cX12_fits 14 = .ok (.iload 5, 2) := by decide +kernel
theorem dX12_fits_16 : decode cX12_fits 16 = .ok (.iconst 1, 1) := by decide +kernel
theorem dX12_fits_17 : decode cX12_fits 17 = .ok (.if_icmp .ne 7, 3) := by decide +kernel
theorem dX12_fits_20 : decode cX12_fits 20 = .ok (.iconst 1, 1) := by decide +kernel
theorem dX12_fits_21 : decode cX12_fits 21 = .ok (.goto 4, 3) := by decide +kernel
theorem dX12_fits_24 : decode cX12_fits 24 = .ok (.iconst 0, 1) := by decide +kernel
theorem dX12_fits_25 : decode cX12_fits 25 = .ok (.istore 6, 2) := by decide +kernel
theorem dX12_fits_27 : decode cX12_fits 27 = .ok (.aload_n 0, 1) := by decide +kernel
theorem dX12_fits_28 : decode cX12_fits 28 = .ok (.iload_n 1, 1) := by decide +kernel
theorem dX12_fits_29 : decode cX12_fits 29 = .ok (.invokevirtual 139, 3) := by decide +kernel
theorem dX12_fits_32 : decode cX12_fits 32 = .ok (.istore 7, 2) := by decide +kernel
theorem dX12_fits_34 : decode cX12_fits 34 = .ok (.iconst 0, 1) := by decide +kernel
theorem dX12_fits_35 : decode cX12_fits 35 = .ok (.istore 8, 2) := by decide +kernel
theorem dX12_fits_37 : decode cX12_fits 37 = .ok (.iload 8, 2) := by decide +kernel
theorem dX12_fits_39 : decode cX12_fits 39 = .ok (.iconst 4, 1) := by decide +kernel
theorem dX12_fits_40 : decode cX12_fits 40 = .ok (.if_icmp .ge 164, 3) := by decide +kernel
theorem dX12_fits_43 : decode cX12_fits 43 = .ok (.aload_n 0, 1) := by decide +kernel
theorem dX12_fits_44 : decode cX12_fits 44 = .ok (.iload_n 1, 1) := by decide +kernel
theorem dX12_fits_45 : decode cX12_fits 45 = .ok (.invokevirtual 198, 3) := by decide +kernel
theorem dX12_fits_48 : decode cX12_fits 48 = .ok (.ifCond .eq 16, 3) := by decide +kernel
theorem dX12_fits_51 : decode cX12_fits 51 = .ok (.iload 8, 2) := by decide +kernel
theorem dX12_fits_53 : decode cX12_fits 53 = .ok (.ifCond .ne 7, 3) := by decide +kernel
theorem dX12_fits_56 : decode cX12_fits 56 = .ok (.iconst 1, 1) := by decide +kernel
theorem dX12_fits_57 : decode cX12_fits 57 = .ok (.goto 33, 3) := by decide +kernel
theorem dX12_fits_60 : decode cX12_fits 60 = .ok (.iconst 0, 1) := by decide +kernel
theorem dX12_fits_61 : decode cX12_fits 61 = .ok (.goto 29, 3) := by decide +kernel
theorem dX12_fits_64 : decode cX12_fits 64 = .ok (.iload 6, 2) := by decide +kernel
theorem dX12_fits_66 : decode cX12_fits 66 = .ok (.ifCond .eq 19, 3) := by decide +kernel
theorem dX12_fits_69 : decode cX12_fits 69 = .ok (.iload 8, 2) := by decide +kernel
theorem dX12_fits_71 : decode cX12_fits 71 = .ok (.iconst 1, 1) := by decide +kernel
theorem dX12_fits_72 : decode cX12_fits 72 = .ok (.if_icmp .eq 13, 3) := by decide +kernel
theorem dX12_fits_75 : decode cX12_fits 75 = .ok (.iload 8, 2) := by decide +kernel
theorem dX12_fits_77 : decode cX12_fits 77 = .ok (.ifCond .ne 12, 3) := by decide +kernel
theorem dX12_fits_80 : decode cX12_fits 80 = .ok (.iload 7, 2) := by decide +kernel
theorem dX12_fits_82 : decode cX12_fits 82 = .ok (.ifCond .ne 7, 3) := by decide +kernel
theorem dX12_fits_85 : decode cX12_fits 85 = .ok (.iconst 1, 1) := by decide +kernel
theorem dX12_fits_86 : decode cX12_fits 86 = .ok (.goto 4, 3) := by decide +kernel
theorem dX12_fits_89 : decode cX12_fits 89 = .ok (.iconst 0, 1) := by decide +kernel
theorem dX12_fits_90 : decode cX12_fits 90 = .ok (.istore 9, 2) := by decide +kernel
theorem dX12_fits_92 : decode cX12_fits 92 = .ok (.iload 9, 2) := by decide +kernel
theorem dX12_fits_94 : decode cX12_fits 94 = .ok (.ifCond .eq 104, 3) := by decide +kernel
theorem dX12_fits_97 : decode cX12_fits 97 = .ok (.aload_n 0, 1) := by decide +kernel
theorem dX12_fits_98 : decode cX12_fits 98 = .ok (.iload_n 1, 1) := by decide +kernel
theorem dX12_fits_99 : decode cX12_fits 99 = .ok (.iload 8, 2) := by decide +kernel
theorem dX12_fits_101 : decode cX12_fits 101 = .ok (.iload 7, 2) := by decide +kernel
theorem dX12_fits_103 : decode cX12_fits 103 = .ok (.ifCond .eq 12, 3) := by decide +kernel
theorem dX12_fits_106 : decode cX12_fits 106 = .ok (.iload 4, 2) := by decide +kernel
theorem dX12_fits_108 : decode cX12_fits 108 = .ok (.ifCond .ne 7, 3) := by decide +kernel
theorem dX12_fits_111 : decode cX12_fits 111 = .ok (.iconst 1, 1) := by decide +kernel
theorem dX12_fits_112 : decode cX12_fits 112 = .ok (.goto 4, 3) := by decide +kernel
theorem dX12_fits_115 : decode cX12_fits 115 = .ok (.iconst 0, 1) := by decide +kernel
theorem dX12_fits_116 : decode cX12_fits 116 = .ok (.invokevirtual 214, 3) := by decide +kernel
theorem dX12_fits_119 : decode cX12_fits 119 = .ok (.aload_n 0, 1) := by decide +kernel
theorem dX12_fits_120 : decode cX12_fits 120 = .ok (.iload_n 2, 1) := by decide +kernel
theorem dX12_fits_121 : decode cX12_fits 121 = .ok (.iload_n 3, 1) := by decide +kernel
theorem dX12_fits_122 : decode cX12_fits 122 = .ok (.iload 4, 2) := by decide +kernel
theorem dX12_fits_124 : decode cX12_fits 124 = .ok (.invokevirtual 221, 3) := by decide +kernel
theorem dX12_fits_127 : decode cX12_fits 127 = .ok (.ifCond .eq 5, 3) := by decide +kernel
theorem dX12_fits_130 : decode cX12_fits 130 = .ok (.iconst 1, 1) := by decide +kernel
theorem dX12_fits_131 : decode cX12_fits 131 = .ok (.ireturn, 1) := by decide +kernel
theorem dX12_fits_132 : decode cX12_fits 132 = .ok (.iload 4, 2) := by decide +kernel
theorem dX12_fits_134 : decode cX12_fits 134 = .ok (.ifCond .ne 64, 3) := by decide +kernel
theorem dX12_fits_137 : decode cX12_fits 137 = .ok (.iload_n 2, 1) := by decide +kernel
theorem dX12_fits_138 : decode cX12_fits 138 = .ok (.iload_n 3, 1) := by decide +kernel
theorem dX12_fits_139 : decode cX12_fits 139 = .ok (.if_icmp .ge 59, 3) := by decide +kernel
theorem dX12_fits_142 : decode cX12_fits 142 = .ok (.aload_n 0, 1) := by decide +kernel
theorem dX12_fits_143 : decode cX12_fits 143 = .ok (.getfield 7, 3) := by decide +kernel
theorem dX12_fits_146 : decode cX12_fits 146 = .ok (.iload_n 3, 1) := by decide +kernel
theorem dX12_fits_147 : decode cX12_fits 147 = .ok (.iconst 1, 1) := by decide +kernel
theorem dX12_fits_148 : decode cX12_fits 148 = .ok (.isub, 1) := by decide +kernel
theorem dX12_fits_149 : decode cX12_fits 149 = .ok (.caload, 1) := by decide +kernel
theorem dX12_fits_150 : decode cX12_fits 150 = .ok (.bipush 43, 2) := by decide +kernel
theorem dX12_fits_152 : decode cX12_fits 152 = .ok (.if_icmp .eq 16, 3) := by decide +kernel
theorem dX12_fits_155 : decode cX12_fits 155 = .ok (.aload_n 0, 1) := by decide +kernel
theorem dX12_fits_156 : decode cX12_fits 156 = .ok (.getfield 7, 3) := by decide +kernel
theorem dX12_fits_159 : decode cX12_fits 159 = .ok (.iload_n 3, 1) := by decide +kernel
theorem dX12_fits_160 : decode cX12_fits 160 = .ok (.iconst 1, 1) := by decide +kernel
theorem dX12_fits_161 : decode cX12_fits 161 = .ok (.isub, 1) := by decide +kernel
theorem dX12_fits_162 : decode cX12_fits 162 = .ok (.caload, 1) := by decide +kernel
theorem dX12_fits_163 : decode cX12_fits 163 = .ok (.bipush 35, 2) := by decide +kernel
theorem dX12_fits_165 : decode cX12_fits 165 = .ok (.if_icmp .ne 33, 3) := by decide +kernel
theorem dX12_fits_168 : decode cX12_fits 168 = .ok (.aload_n 0, 1) := by decide +kernel
theorem dX12_fits_169 : decode cX12_fits 169 = .ok (.iload_n 2, 1) := by decide +kernel
theorem dX12_fits_170 : decode cX12_fits 170 = .ok (.iload_n 3, 1) := by decide +kernel
theorem dX12_fits_171 : decode cX12_fits 171 = .ok (.iconst 1, 1) := by decide +kernel
theorem dX12_fits_172 : decode cX12_fits 172 = .ok (.isub, 1) := by decide +kernel
theorem dX12_fits_173 : decode cX12_fits 173 = .ok (.iconst 0, 1) := by decide +kernel
theorem dX12_fits_174 : decode cX12_fits 174 = .ok (.invokevirtual 221, 3) := by decide +kernel
theorem dX12_fits_177 : decode cX12_fits 177 = .ok (.ifCond .eq 21, 3) := by decide +kernel
theorem dX12_fits_180 : decode cX12_fits 180 = .ok (.aload_n 0, 1) := by decide +kernel
theorem dX12_fits_181 : decode cX12_fits 181 = .ok (.iload_n 1, 1) := by decide +kernel
theorem dX12_fits_182 : decode cX12_fits 182 = .ok (.invokevirtual 218, 3) := by decide +kernel
theorem dX12_fits_185 : decode cX12_fits 185 = .ok (.aload_n 0, 1) := by decide +kernel
theorem dX12_fits_186 : decode cX12_fits 186 = .ok (.getfield 7, 3) := by decide +kernel
theorem dX12_fits_189 : decode cX12_fits 189 = .ok (.iload_n 3, 1) := by decide +kernel
theorem dX12_fits_190 : decode cX12_fits 190 = .ok (.iconst 1, 1) := by decide +kernel
theorem dX12_fits_191 : decode cX12_fits 191 = .ok (.isub, 1) := by decide +kernel
theorem dX12_fits_192 : decode cX12_fits 192 = .ok (.caload, 1) := by decide +kernel
theorem dX12_fits_193 : decode cX12_fits 193 = .ok (.if_icmp .ne 5, 3) := by decide +kernel
theorem dX12_fits_196 : decode cX12_fits 196 = .ok (.iconst 1, 1) := by decide +kernel
theorem dX12_fits_197 : decode cX12_fits 197 = .ok (.ireturn, 1) := by decide +kernel
theorem dX12_fits_198 : decode cX12_fits 198 = .ok (.iinc 8 1, 3) := by decide +kernel
theorem dX12_fits_201 : decode cX12_fits 201 = .ok (.goto (-164), 3) := by decide +kernel
theorem dX12_fits_204 : decode cX12_fits 204 = .ok (.iconst 0, 1) := by decide +kernel
theorem dX12_fits_205 : decode cX12_fits 205 = .ok (.ireturn, 1) := by decide +kernel
theorem dX12_understood_0 : decode cX12_understood 0 = .ok (.iconst 0, 1) := by decide +kernel
theorem dX12_understood_1 : decode cX12_understood 1 = .ok (.istore_n 3, 1) := by decide +kernel
theorem dX12_understood_2 : decode cX12_understood 2 = .ok (.iconst (-1), 1) := by decide +kernel
theorem dX12_understood_3 : decode cX12_understood 3 = .ok (.istore 4, 2) := by decide +kernel
theorem dX12_understood_5 : decode cX12_understood 5 = .ok (.iconst 0, 1) := by decide +kernel
theorem dX12_understood_6 : decode cX12_understood 6 = .ok (.istore 5, 2) := by decide +kernel
theorem dX12_understood_8 : decode cX12_understood 8 = .ok (.iload 5, 2) := by decide +kernel
theorem dX12_understood_10 : decode cX12_understood 10 = .ok (.aload_n 0, 1) := by decide +kernel
theorem dX12_understood_11 : decode cX12_understood 11 = .ok (.getfield 170, 3) := by decide +kernel
theorem dX12_understood_14 : decode cX12_understood 14 = .ok (.if_icmp .ge 38, 3) := by decide +kernel
theorem dX12_understood_17 : decode cX12_understood 17 = .ok (.aload_n 0, 1) := by decide +kernel
theorem dX12_understood_18 : decode cX12_understood 18 = .ok (.aload_n 0, 1) := by decide +kernel
theorem dX12_understood_19 : decode cX12_understood 19 = .ok (.getfield 79, 3) := by decide +kernel
theorem dX12_understood_22 : decode cX12_understood 22 = .ok (.iload 5, 2) := by decide +kernel
theorem dX12_understood_24 : decode cX12_understood 24 = .ok (.iaload, 1) := by decide +kernel
theorem dX12_understood_25 : decode cX12_understood 25 = .ok (.iload_n 1, 1) := by decide +kernel
theorem dX12_understood_26 : decode cX12_understood 26 = .ok (.iload_n 2, 1) := by decide +kernel
theorem dX12_understood_27 : decode cX12_understood 27 = .ok (.iconst 0, 1) := by decide +kernel
theorem dX12_understood_28 : decode cX12_understood 28 = .ok (.invokevirtual 225, 3) := by decide +kernel
theorem dX12_understood_31 : decode cX12_understood 31 = .ok (.ifCond .eq 15, 3) := by decide +kernel
theorem dX12_understood_34 : decode cX12_understood 34 = .ok (.iinc 3 1, 3) := by decide +kernel
theorem dX12_understood_37 : decode cX12_understood 37 = .ok (.aload_n 0, 1) := by decide +kernel
theorem dX12_understood_38 : decode cX12_understood 38 = .ok (.getfield 79, 3) := by decide +kernel
theorem dX12_understood_41 : decode cX12_understood 41 = .ok (.iload 5, 2) := by decide +kernel
theorem dX12_understood_43 : decode cX12_understood 43 = .ok (.iaload, 1) := by decide +kernel
theorem dX12_understood_44 : decode cX12_understood 44 = .ok (.istore 4, 2) := by decide +kernel
theorem dX12_understood_46 : decode cX12_understood 46 = .ok (.iinc 5 1, 3) := by decide +kernel
theorem dX12_understood_49 : decode cX12_understood 49 = .ok (.goto (-41), 3) := by decide +kernel
theorem dX12_understood_52 : decode cX12_understood 52 = .ok (.iload_n 3, 1) := by decide +kernel
theorem dX12_understood_53 : decode cX12_understood 53 = .ok (.ifCond .le 15, 3) := by decide +kernel
theorem dX12_understood_56 : decode cX12_understood 56 = .ok (.iload_n 3, 1) := by decide +kernel
theorem dX12_understood_57 : decode cX12_understood 57 = .ok (.iconst 1, 1) := by decide +kernel
theorem dX12_understood_58 : decode cX12_understood 58 = .ok (.if_icmp .ne 8, 3) := by decide +kernel
theorem dX12_understood_61 : decode cX12_understood 61 = .ok (.iload 4, 2) := by decide +kernel
theorem dX12_understood_63 : decode cX12_understood 63 = .ok (.goto 4, 3) := by decide +kernel
theorem dX12_understood_66 : decode cX12_understood 66 = .ok (.iconst (-1), 1) := by decide +kernel
theorem dX12_understood_67 : decode cX12_understood 67 = .ok (.ireturn, 1) := by decide +kernel
theorem dX12_understood_68 : decode cX12_understood 68 = .ok (.iconst 0, 1) := by decide +kernel
theorem dX12_understood_69 : decode cX12_understood 69 = .ok (.istore 5, 2) := by decide +kernel
theorem dX12_understood_71 : decode cX12_understood 71 = .ok (.iload 5, 2) := by decide +kernel
theorem dX12_understood_73 : decode cX12_understood 73 = .ok (.aload_n 0, 1) := by decide +kernel
theorem dX12_understood_74 : decode cX12_understood 74 = .ok (.getfield 170, 3) := by decide +kernel
theorem dX12_understood_77 : decode cX12_understood 77 = .ok (.if_icmp .ge 34, 3) := by decide +kernel
theorem dX12_understood_80 : decode cX12_understood 80 = .ok (.aload_n 0, 1) := by decide +kernel
theorem dX12_understood_81 : decode cX12_understood 81 = .ok (.aload_n 0, 1) := by decide +kernel
theorem dX12_understood_82 : decode cX12_understood 82 = .ok (.getfield 79, 3) := by decide +kernel
theorem dX12_understood_85 : decode cX12_understood 85 = .ok (.iload 5, 2) := by decide +kernel
theorem dX12_understood_87 : decode cX12_understood 87 = .ok (.iaload, 1) := by decide +kernel
theorem dX12_understood_88 : decode cX12_understood 88 = .ok (.iload_n 1, 1) := by decide +kernel
theorem dX12_understood_89 : decode cX12_understood 89 = .ok (.iload_n 2, 1) := by decide +kernel
theorem dX12_understood_90 : decode cX12_understood 90 = .ok (.iconst 1, 1) := by decide +kernel
theorem dX12_understood_91 : decode cX12_understood 91 = .ok (.invokevirtual 225, 3) := by decide +kernel
theorem dX12_understood_94 : decode cX12_understood 94 = .ok (.ifCond .eq 9, 3) := by decide +kernel
theorem dX12_understood_97 : decode cX12_understood 97 = .ok (.iload_n 3, 1) := by decide +kernel
theorem dX12_understood_98 : decode cX12_understood 98 = .ok (.iconst 1, 1) := by decide +kernel
theorem dX12_understood_99 : decode cX12_understood 99 = .ok (.iadd, 1) := by decide +kernel
theorem dX12_understood_100 : decode cX12_understood 100 = .ok (.goto 4, 3) := by decide +kernel
theorem dX12_understood_103 : decode cX12_understood 103 = .ok (.iload_n 3, 1) := by decide +kernel
theorem dX12_understood_104 : decode cX12_understood 104 = .ok (.istore_n 3, 1) := by decide +kernel
theorem dX12_understood_105 : decode cX12_understood 105 = .ok (.iinc 5 1, 3) := by decide +kernel
theorem dX12_understood_108 : decode cX12_understood 108 = .ok (.goto (-37), 3) := by decide +kernel
theorem dX12_understood_111 : decode cX12_understood 111 = .ok (.iload_n 3, 1) := by decide +kernel
theorem dX12_understood_112 : decode cX12_understood 112 = .ok (.iconst 1, 1) := by decide +kernel
theorem dX12_understood_113 : decode cX12_understood 113 = .ok (.if_icmp .ne 8, 3) := by decide +kernel
theorem dX12_understood_116 : decode cX12_understood 116 = .ok (.bipush (-2), 2) := by decide +kernel
theorem dX12_understood_118 : decode cX12_understood 118 = .ok (.goto 4, 3) := by decide +kernel
theorem dX12_understood_121 : decode cX12_understood 121 = .ok (.iconst (-1), 1) := by decide +kernel
theorem dX12_understood_122 : decode cX12_understood 122 = .ok (.ireturn, 1) := by decide +kernel
theorem dX12_sign_0 : decode cX12_sign 0 = .ok (.aload_n 0, 1) := by decide +kernel
theorem dX12_sign_1 : decode cX12_sign 1 = .ok (.getfield 229, 3) := by decide +kernel
theorem dX12_sign_4 : decode cX12_sign 4 = .ok (.aload_n 0, 1) := by decide +kernel
theorem dX12_sign_5 : decode cX12_sign 5 = .ok (.getfield 232, 3) := by decide +kernel
theorem dX12_sign_8 : decode cX12_sign 8 = .ok (.if_icmp .ge 15, 3) := by decide +kernel
theorem dX12_sign_11 : decode cX12_sign 11 = .ok (.aload_n 0, 1) := by decide +kernel
theorem dX12_sign_12 : decode cX12_sign 12 = .ok (.getfield 64, 3) := by decide +kernel
theorem dX12_sign_15 : decode cX12_sign 15 = .ok (.aload_n 0, 1) := by decide +kernel
theorem dX12_sign_16 : decode cX12_sign 16 = .ok (.getfield 229, 3) := by decide +kernel
theorem dX12_sign_19 : decode cX12_sign 19 = .ok (.caload, 1) := by decide +kernel
theorem dX12_sign_20 : decode cX12_sign 20 = .ok (.goto 4, 3) := by decide +kernel
theorem dX12_sign_23 : decode cX12_sign 23 = .ok (.iconst 0, 1) := by decide +kernel
theorem dX12_sign_24 : decode cX12_sign 24 = .ok (.ireturn, 1) := by decide +kernel
theorem dX12_pass_0 : decode cX12_pass 0 = .ok (.aload_n 0, 1) := by decide +kernel
theorem dX12_pass_1 : decode cX12_pass 1 = .ok (.invokevirtual 235, 3) := by decide +kernel
theorem dX12_pass_4 : decode cX12_pass 4 = .ok (.iload_n 1, 1) := by decide +kernel
theorem dX12_pass_5 : decode cX12_pass 5 = .ok (.if_icmp .ne 7, 3) := by decide +kernel
theorem dX12_pass_8 : decode cX12_pass 8 = .ok (.iconst 1, 1) := by decide +kernel
theorem dX12_pass_9 : decode cX12_pass 9 = .ok (.goto 4, 3) := by decide +kernel
theorem dX12_pass_12 : decode cX12_pass 12 = .ok (.iconst 0, 1) := by decide +kernel
theorem dX12_pass_13 : decode cX12_pass 13 = .ok (.istore_n 2, 1) := by decide +kernel
theorem dX12_pass_14 : decode cX12_pass 14 = .ok (.aload_n 0, 1) := by decide +kernel
theorem dX12_pass_15 : decode cX12_pass 15 = .ok (.dup, 1) := by decide +kernel
theorem dX12_pass_16 : decode cX12_pass 16 = .ok (.getfield 229, 3) := by decide +kernel
theorem dX12_pass_19 : decode cX12_pass 19 = .ok (.iconst 1, 1) := by decide +kernel
theorem dX12_pass_20 : decode cX12_pass 20 = .ok (.iadd, 1) := by decide +kernel
theorem dX12_pass_21 : decode cX12_pass 21 = .ok (.putfield 229, 3) := by decide +kernel
theorem dX12_pass_24 : decode cX12_pass 24 = .ok (.iload_n 2, 1) := by decide +kernel
theorem dX12_pass_25 : decode cX12_pass 25 = .ok (.ireturn, 1) := by decide +kernel
theorem dX12_manOf_0 : decode cX12_manOf 0 = .ok (.iload_n 0, 1) := by decide +kernel
theorem dX12_manOf_1 : decode cX12_manOf 1 = .ok (.tableswitch 96 66 82 #[87, 96, 96, 96, 96, 96, 96, 96, 96, 93, 96, 96, 85, 96, 83, 91, 89], 83) := by decide +kernel
theorem dX12_manOf_84 : decode cX12_manOf 84 = .ok (.iconst 1, 1) := by decide +kernel
theorem dX12_manOf_85 : decode cX12_manOf 85 = .ok (.ireturn, 1) := by decide +kernel
theorem dX12_manOf_86 : decode cX12_manOf 86 = .ok (.iconst 2, 1) := by decide +kernel
theorem dX12_manOf_87 : decode cX12_manOf 87 = .ok (.ireturn, 1) := by decide +kernel
theorem dX12_manOf_88 : decode cX12_manOf 88 = .ok (.iconst 3, 1) := by decide +kernel
theorem dX12_manOf_89 : decode cX12_manOf 89 = .ok (.ireturn, 1) := by decide +kernel
theorem dX12_manOf_90 : decode cX12_manOf 90 = .ok (.iconst 4, 1) := by decide +kernel
theorem dX12_manOf_91 : decode cX12_manOf 91 = .ok (.ireturn, 1) := by decide +kernel
theorem dX12_manOf_92 : decode cX12_manOf 92 = .ok (.iconst 5, 1) := by decide +kernel
theorem dX12_manOf_93 : decode cX12_manOf 93 = .ok (.ireturn, 1) := by decide +kernel
theorem dX12_manOf_94 : decode cX12_manOf 94 = .ok (.bipush 6, 2) := by decide +kernel
theorem dX12_manOf_96 : decode cX12_manOf 96 = .ok (.ireturn, 1) := by decide +kernel
theorem dX12_manOf_97 : decode cX12_manOf 97 = .ok (.iload_n 0, 1) := by decide +kernel
theorem dX12_manOf_98 : decode cX12_manOf 98 = .ok (.bipush 97, 2) := by decide +kernel
theorem dX12_manOf_100 : decode cX12_manOf 100 = .ok (.if_icmp .lt 34, 3) := by decide +kernel
theorem dX12_manOf_103 : decode cX12_manOf 103 = .ok (.iload_n 0, 1) := by decide +kernel
theorem dX12_manOf_104 : decode cX12_manOf 104 = .ok (.bipush 122, 2) := by decide +kernel
theorem dX12_manOf_106 : decode cX12_manOf 106 = .ok (.if_icmp .gt 28, 3) := by decide +kernel
theorem dX12_manOf_109 : decode cX12_manOf 109 = .ok (.iload_n 0, 1) := by decide +kernel
theorem dX12_manOf_110 : decode cX12_manOf 110 = .ok (.bipush 32, 2) := by decide +kernel
theorem dX12_manOf_112 : decode cX12_manOf 112 = .ok (.isub, 1) := by decide +kernel
theorem dX12_manOf_113 : decode cX12_manOf 113 = .ok (.i2c, 1) := by decide +kernel
theorem dX12_manOf_114 : decode cX12_manOf 114 = .ok (.invokestatic 239, 3) := by decide +kernel
theorem dX12_manOf_117 : decode cX12_manOf 117 = .ok (.ifCond .le 17, 3) := by decide +kernel
theorem dX12_manOf_120 : decode cX12_manOf 120 = .ok (.iload_n 0, 1) := by decide +kernel
theorem dX12_manOf_121 : decode cX12_manOf 121 = .ok (.bipush 32, 2) := by decide +kernel
theorem dX12_manOf_123 : decode cX12_manOf 123 = .ok (.isub, 1) := by decide +kernel
theorem dX12_manOf_124 : decode cX12_manOf 124 = .ok (.i2c, 1) := by decide +kernel
theorem dX12_manOf_125 : decode cX12_manOf 125 = .ok (.invokestatic 239, 3) := by decide +kernel
theorem dX12_manOf_128 : decode cX12_manOf 128 = .ok (.bipush 8, 2) := by decide +kernel
theorem dX12_manOf_130 : decode cX12_manOf 130 = .ok (.iadd, 1) := by decide +kernel
theorem dX12_manOf_131 : decode cX12_manOf 131 = .ok (.goto 4, 3) := by decide +kernel
theorem dX12_manOf_134 : decode cX12_manOf 134 = .ok (.iconst 0, 1) := by decide +kernel
theorem dX12_manOf_135 : decode cX12_manOf 135 = .ok (.ireturn, 1) := by decide +kernel
theorem dX12_readRank_0 : decode cX12_readRank 0 = .ok (.iconst 0, 1) := by decide +kernel
theorem dX12_readRank_1 : decode cX12_readRank 1 = .ok (.istore_n 2, 1) := by decide +kernel
theorem dX12_readRank_2 : decode cX12_readRank 2 = .ok (.iconst 0, 1) := by decide +kernel
theorem dX12_readRank_3 : decode cX12_readRank 3 = .ok (.istore_n 3, 1) := by decide +kernel
theorem dX12_readRank_4 : decode cX12_readRank 4 = .ok (.iload_n 2, 1) := by decide +kernel
theorem dX12_readRank_5 : decode cX12_readRank 5 = .ok (.bipush 8, 2) := by decide +kernel
theorem dX12_readRank_7 : decode cX12_readRank 7 = .ok (.if_icmp .ge 88, 3) := by decide +kernel
theorem dX12_readRank_10 : decode cX12_readRank 10 = .ok (.aload_n 0, 1) := by decide +kernel
theorem dX12_readRank_11 : decode cX12_readRank 11 = .ok (.invokevirtual 235, 3) := by decide +kernel
theorem dX12_readRank_14 : decode cX12_readRank 14 = .ok (.istore 4, 2) := by decide +kernel
theorem dX12_readRank_16 : decode cX12_readRank 16 = .ok (.iload 4, 2) := by decide +kernel
theorem dX12_readRank_18 : decode cX12_readRank 18 = .ok (.invokestatic 239, 3) := by decide +kernel
theorem dX12_readRank_21 : decode cX12_readRank 21 = .ok (.istore 5, 2) := by decide +kernel
theorem dX12_readRank_23 : decode cX12_readRank 23 = .ok (.iload 4, 2) := by decide +kernel
theorem dX12_readRank_25 : decode cX12_readRank 25 = .ok (.bipush 49, 2) := by decide +kernel
theorem dX12_readRank_27 : decode cX12_readRank 27 = .ok (.if_icmp .lt 27, 3) := by decide +kernel
theorem dX12_readRank_30 : decode cX12_readRank 30 = .ok (.iload 4, 2) := by decide +kernel
theorem dX12_readRank_32 : decode cX12_readRank 32 = .ok (.bipush 56, 2) := by decide +kernel
theorem dX12_readRank_34 : decode cX12_readRank 34 = .ok (.if_icmp .gt 20, 3) := by decide +kernel
theorem dX12_readRank_37 : decode cX12_readRank 37 = .ok (.iload_n 3, 1) := by decide +kernel
theorem dX12_readRank_38 : decode cX12_readRank 38 = .ok (.ifCond .ne 16, 3) := by decide +kernel
theorem dX12_readRank_41 : decode cX12_readRank 41 = .ok (.iload_n 2, 1) := by decide +kernel
theorem dX12_readRank_42 : decode cX12_readRank 42 = .ok (.iload 4, 2) := by decide +kernel
theorem dX12_readRank_44 : decode cX12_readRank 44 = .ok (.iadd, 1) := by decide +kernel
theorem dX12_readRank_45 : decode cX12_readRank 45 = .ok (.bipush 48, 2) := by decide +kernel
theorem dX12_readRank_47 : decode cX12_readRank 47 = .ok (.isub, 1) := by decide +kernel
theorem dX12_readRank_48 : decode cX12_readRank 48 = .ok (.istore_n 2, 1) := by decide +kernel
theorem dX12_readRank_49 : decode cX12_readRank 49 = .ok (.iconst 1, 1) := by decide +kernel
theorem dX12_readRank_50 : decode cX12_readRank 50 = .ok (.istore_n 3, 1) := by decide +kernel
theorem dX12_readRank_51 : decode cX12_readRank 51 = .ok (.goto 31, 3) := by decide +kernel
theorem dX12_readRank_54 : decode cX12_readRank 54 = .ok (.iload 5, 2) := by decide +kernel
theorem dX12_readRank_56 : decode cX12_readRank 56 = .ok (.ifCond .le 24, 3) := by decide +kernel
theorem dX12_readRank_59 : decode cX12_readRank 59 = .ok (.aload_n 0, 1) := by decide +kernel
theorem dX12_readRank_60 : decode cX12_readRank 60 = .ok (.getfield 70, 3) := by decide +kernel
theorem dX12_readRank_63 : decode cX12_readRank 63 = .ok (.bipush 8, 2) := by decide +kernel
theorem dX12_readRank_65 : decode cX12_readRank 65 = .ok (.iload_n 1, 1) := by decide +kernel
theorem dX12_readRank_66 : decode cX12_readRank 66 = .ok (.imul, 1) := by decide +kernel
theorem dX12_readRank_67 : decode cX12_readRank 67 = .ok (.iload_n 2, 1) := by decide +kernel
theorem dX12_readRank_68 : decode cX12_readRank 68 = .ok (.iadd, 1) := by decide +kernel
theorem dX12_readRank_69 : decode cX12_readRank 69 = .ok (.iload 5, 2) := by decide +kernel
theorem dX12_readRank_71 : decode cX12_readRank 71 = .ok (.iastore, 1) := by decide +kernel
theorem dX12_readRank_72 : decode cX12_readRank 72 = .ok (.iinc 2 1, 3) := by decide +kernel
theorem dX12_readRank_75 : decode cX12_readRank 75 = .ok (.iconst 0, 1) := by decide +kernel
theorem dX12_readRank_76 : decode cX12_readRank 76 = .ok (.istore_n 3, 1) := by decide +kernel
theorem dX12_readRank_77 : decode cX12_readRank 77 = .ok (.goto 5, 3) := by decide +kernel
theorem dX12_readRank_80 : decode cX12_readRank 80 = .ok (.iconst 0, 1) := by decide +kernel
theorem dX12_readRank_81 : decode cX12_readRank 81 = .ok (.ireturn, 1) := by decide +kernel
theorem dX12_readRank_82 : decode cX12_readRank 82 = .ok (.aload_n 0, 1) := by decide +kernel
theorem dX12_readRank_83 : decode cX12_readRank 83 = .ok (.dup, 1) := by decide +kernel
theorem dX12_readRank_84 : decode cX12_readRank 84 = .ok (.getfield 229, 3) := by decide +kernel
theorem dX12_readRank_87 : decode cX12_readRank 87 = .ok (.iconst 1, 1) := by decide +kernel
theorem dX12_readRank_88 : decode cX12_readRank 88 = .ok (.iadd, 1) := by decide +kernel
theorem dX12_readRank_89 : decode cX12_readRank 89 = .ok (.putfield 229, 3) := by decide +kernel
theorem dX12_readRank_92 : decode cX12_readRank 92 = .ok (.goto (-88), 3) := by decide +kernel
theorem dX12_readRank_95 : decode cX12_readRank 95 = .ok (.iload_n 2, 1) := by decide +kernel
theorem dX12_readRank_96 : decode cX12_readRank 96 = .ok (.bipush 8, 2) := by decide +kernel
theorem dX12_readRank_98 : decode cX12_readRank 98 = .ok (.if_icmp .ne 7, 3) := by decide +kernel
theorem dX12_readRank_101 : decode cX12_readRank 101 = .ok (.iconst 1, 1) := by decide +kernel
theorem dX12_readRank_102 : decode cX12_readRank 102 = .ok (.goto 4, 3) := by decide +kernel
theorem dX12_readRank_105 : decode cX12_readRank 105 = .ok (.iconst 0, 1) := by decide +kernel
theorem dX12_readRank_106 : decode cX12_readRank 106 = .ok (.ireturn, 1) := by decide +kernel
theorem dX12_readNumber_0 : decode cX12_readNumber 0 = .ok (.iconst 0, 1) := by decide +kernel
theorem dX12_readNumber_1 : decode cX12_readNumber 1 = .ok (.istore_n 1, 1) := by decide +kernel
theorem dX12_readNumber_2 : decode cX12_readNumber 2 = .ok (.iconst 0, 1) := by decide +kernel
theorem dX12_readNumber_3 : decode cX12_readNumber 3 = .ok (.istore_n 2, 1) := by decide +kernel
theorem dX12_readNumber_4 : decode cX12_readNumber 4 = .ok (.aload_n 0, 1) := by decide +kernel
theorem dX12_readNumber_5 : decode cX12_readNumber 5 = .ok (.invokevirtual 235, 3) := by decide +kernel
theorem dX12_readNumber_8 : decode cX12_readNumber 8 = .ok (.istore_n 3, 1) := by decide +kernel
theorem dX12_readNumber_9 : decode cX12_readNumber 9 = .ok (.aload_n 0, 1) := by decide +kernel
theorem dX12_readNumber_10 : decode cX12_readNumber 10 = .ok (.invokevirtual 235, 3) := by decide +kernel
theorem dX12_readNumber_13 : decode cX12_readNumber 13 = .ok (.bipush 48, 2) := by decide +kernel
theorem dX12_readNumber_15 : decode cX12_readNumber 15 = .ok (.if_icmp .lt 46, 3) := by decide +kernel
theorem dX12_readNumber_18 : decode cX12_readNumber 18 = .ok (.aload_n 0, 1) := by decide +kernel
theorem dX12_readNumber_19 : decode cX12_readNumber 19 = .ok (.invokevirtual 235, 3) := by decide +kernel
theorem dX12_readNumber_22 : decode cX12_readNumber 22 = .ok (.bipush 57, 2) := by decide +kernel
theorem dX12_readNumber_24 : decode cX12_readNumber 24 = .ok (.if_icmp .gt 37, 3) := by decide +kernel
theorem dX12_readNumber_27 : decode cX12_readNumber 27 = .ok (.iload_n 2, 1) := by decide +kernel
theorem dX12_readNumber_28 : decode cX12_readNumber 28 = .ok (.iconst 4, 1) := by decide +kernel
theorem dX12_readNumber_29 : decode cX12_readNumber 29 = .ok (.if_icmp .ge 32, 3) := by decide +kernel
theorem dX12_readNumber_32 : decode cX12_readNumber 32 = .ok (.bipush 10, 2) := by decide +kernel
theorem dX12_readNumber_34 : decode cX12_readNumber 34 = .ok (.iload_n 1, 1) := by decide +kernel
theorem dX12_readNumber_35 : decode cX12_readNumber 35 = .ok (.imul, 1) := by decide +kernel
theorem dX12_readNumber_36 : decode cX12_readNumber 36 = .ok (.aload_n 0, 1) := by decide +kernel
theorem dX12_readNumber_37 : decode cX12_readNumber 37 = .ok (.invokevirtual 235, 3) := by decide +kernel
theorem dX12_readNumber_40 : decode cX12_readNumber 40 = .ok (.iadd, 1) := by decide +kernel
theorem dX12_readNumber_41 : decode cX12_readNumber 41 = .ok (.bipush 48, 2) := by decide +kernel
theorem dX12_readNumber_43 : decode cX12_readNumber 43 = .ok (.isub, 1) := by decide +kernel
theorem dX12_readNumber_44 : decode cX12_readNumber 44 = .ok (.istore_n 1, 1) := by decide +kernel
theorem dX12_readNumber_45 : decode cX12_readNumber 45 = .ok (.iinc 2 1, 3) := by decide +kernel
theorem dX12_readNumber_48 : decode cX12_readNumber 48 = .ok (.aload_n 0, 1) := by decide +kernel
theorem dX12_readNumber_49 : decode cX12_readNumber 49 = .ok (.dup, 1) := by decide +kernel
theorem dX12_readNumber_50 : decode cX12_readNumber 50 = .ok (.getfield 229, 3) := by decide +kernel
theorem dX12_readNumber_53 : decode cX12_readNumber 53 = .ok (.iconst 1, 1) := by decide +kernel
theorem dX12_readNumber_54 : decode cX12_readNumber 54 = .ok (.iadd, 1) := by decide +kernel
theorem dX12_readNumber_55 : decode cX12_readNumber 55 = .ok (.putfield 229, 3) := by decide +kernel
theorem dX12_readNumber_58 : decode cX12_readNumber 58 = .ok (.goto (-49), 3) := by decide +kernel
theorem dX12_readNumber_61 : decode cX12_readNumber 61 = .ok (.iload_n 2, 1) := by decide +kernel
theorem dX12_readNumber_62 : decode cX12_readNumber 62 = .ok (.ifCond .eq 19, 3) := by decide +kernel
theorem dX12_readNumber_65 : decode cX12_readNumber 65 = .ok (.iload_n 2, 1) := by decide +kernel
theorem dX12_readNumber_66 : decode cX12_readNumber 66 = .ok (.iconst 3, 1) := by decide +kernel
theorem dX12_readNumber_67 : decode cX12_readNumber 67 = .ok (.if_icmp .gt 14, 3) := by decide +kernel
theorem dX12_readNumber_70 : decode cX12_readNumber 70 = .ok (.iload_n 2, 1) := by decide +kernel
theorem dX12_readNumber_71 : decode cX12_readNumber 71 = .ok (.iconst 1, 1) := by decide +kernel
theorem dX12_readNumber_72 : decode cX12_readNumber 72 = .ok (.if_icmp .le 13, 3) := by decide +kernel
theorem dX12_readNumber_75 : decode cX12_readNumber 75 = .ok (.iload_n 3, 1) := by decide +kernel
theorem dX12_readNumber_76 : decode cX12_readNumber 76 = .ok (.bipush 48, 2) := by decide +kernel
theorem dX12_readNumber_78 : decode cX12_readNumber 78 = .ok (.if_icmp .ne 7, 3) := by decide +kernel
theorem dX12_readNumber_81 : decode cX12_readNumber 81 = .ok (.iconst (-1), 1) := by decide +kernel
theorem dX12_readNumber_82 : decode cX12_readNumber 82 = .ok (.goto 4, 3) := by decide +kernel
theorem dX12_readNumber_85 : decode cX12_readNumber 85 = .ok (.iload_n 1, 1) := by decide +kernel
theorem dX12_readNumber_86 : decode cX12_readNumber 86 = .ok (.ireturn, 1) := by decide +kernel
theorem dX12_readRights_0 : decode cX12_readRights 0 = .ok (.aload_n 0, 1) := by decide +kernel
theorem dX12_readRights_1 : decode cX12_readRights 1 = .ok (.iconst 0, 1) := by decide +kernel
theorem dX12_readRights_2 : decode cX12_readRights 2 = .ok (.putfield 124, 3) := by decide +kernel
theorem dX12_readRights_5 : decode cX12_readRights 5 = .ok (.aload_n 0, 1) := by decide +kernel
theorem dX12_readRights_6 : decode cX12_readRights 6 = .ok (.invokevirtual 235, 3) := by decide +kernel
theorem dX12_readRights_9 : decode cX12_readRights 9 = .ok (.bipush 45, 2) := by decide +kernel
theorem dX12_readRights_11 : decode cX12_readRights 11 = .ok (.if_icmp .ne 10, 3) := by decide +kernel
theorem dX12_readRights_14 : decode cX12_readRights 14 = .ok (.aload_n 0, 1) := by decide +kernel
theorem dX12_readRights_15 : decode cX12_readRights 15 = .ok (.bipush 45, 2) := by decide +kernel
theorem dX12_readRights_17 : decode cX12_readRights 17 = .ok (.invokevirtual 243, 3) := by decide +kernel
theorem dX12_readRights_20 : decode cX12_readRights 20 = .ok (.ireturn, 1) := by decide +kernel
theorem dX12_readRights_21 : decode cX12_readRights 21 = .ok (.iconst 0, 1) := by decide +kernel
theorem dX12_readRights_22 : decode cX12_readRights 22 = .ok (.istore_n 1, 1) := by decide +kernel
theorem dX12_readRights_23 : decode cX12_readRights 23 = .ok (.iload_n 1, 1) := by decide +kernel
theorem dX12_readRights_24 : decode cX12_readRights 24 = .ok (.iconst 4, 1) := by decide +kernel
theorem dX12_readRights_25 : decode cX12_readRights 25 = .ok (.if_icmp .ge 69, 3) := by decide +kernel
theorem dX12_readRights_28 : decode cX12_readRights 28 = .ok (.aload_n 0, 1) := by decide +kernel
theorem dX12_readRights_29 : decode cX12_readRights 29 = .ok (.invokevirtual 235, 3) := by decide +kernel
theorem dX12_readRights_32 : decode cX12_readRights 32 = .ok (.iload_n 1, 1) := by decide +kernel
theorem dX12_readRights_33 : decode cX12_readRights 33 = .ok (.ifCond .ne 8, 3) := by decide +kernel
theorem dX12_readRights_36 : decode cX12_readRights 36 = .ok (.bipush 75, 2) := by decide +kernel
theorem dX12_readRights_38 : decode cX12_readRights 38 = .ok (.goto 25, 3) := by decide +kernel
theorem dX12_readRights_41 : decode cX12_readRights 41 = .ok (.iload_n 1, 1) := by decide +kernel
theorem dX12_readRights_42 : decode cX12_readRights 42 = .ok (.iconst 1, 1) := by decide +kernel
theorem dX12_readRights_43 : decode cX12_readRights 43 = .ok (.if_icmp .ne 8, 3) := by decide +kernel
theorem dX12_readRights_46 : decode cX12_readRights 46 = .ok (.bipush 81, 2) := by decide +kernel
theorem dX12_readRights_48 : decode cX12_readRights 48 = .ok (.goto 15, 3) := by decide +kernel
theorem dX12_readRights_51 : decode cX12_readRights 51 = .ok (.iload_n 1, 1) := by decide +kernel
theorem dX12_readRights_52 : decode cX12_readRights 52 = .ok (.iconst 2, 1) := by decide +kernel
theorem dX12_readRights_53 : decode cX12_readRights 53 = .ok (.if_icmp .ne 8, 3) := by decide +kernel
theorem dX12_readRights_56 : decode cX12_readRights 56 = .ok (.bipush 107, 2) := by decide +kernel
theorem dX12_readRights_58 : decode cX12_readRights 58 = .ok (.goto 5, 3) := by decide +kernel
theorem dX12_readRights_61 : decode cX12_readRights 61 = .ok (.bipush 113, 2) := by decide +kernel
theorem dX12_readRights_63 : decode cX12_readRights 63 = .ok (.if_icmp .ne 25, 3) := by decide +kernel
theorem dX12_readRights_66 : decode cX12_readRights 66 = .ok (.aload_n 0, 1) := by decide +kernel
theorem dX12_readRights_67 : decode cX12_readRights 67 = .ok (.aload_n 0, 1) := by decide +kernel
theorem dX12_readRights_68 : decode cX12_readRights 68 = .ok (.getfield 124, 3) := by decide +kernel
theorem dX12_readRights_71 : decode cX12_readRights 71 = .ok (.iconst 1, 1) := by decide +kernel
theorem dX12_readRights_72 : decode cX12_readRights 72 = .ok (.iload_n 1, 1) := by decide +kernel
theorem dX12_readRights_73 : decode cX12_readRights 73 = .ok (.ishl, 1) := by decide +kernel
theorem dX12_readRights_74 : decode cX12_readRights 74 = .ok (.iadd, 1) := by decide +kernel
theorem dX12_readRights_75 : decode cX12_readRights 75 = .ok (.putfield 124, 3) := by decide +kernel
theorem dX12_readRights_78 : decode cX12_readRights 78 = .ok (.aload_n 0, 1) := by decide +kernel
theorem dX12_readRights_79 : decode cX12_readRights 79 = .ok (.dup, 1) := by decide +kernel
theorem dX12_readRights_80 : decode cX12_readRights 80 = .ok (.getfield 229, 3) := by decide +kernel
theorem dX12_readRights_83 : decode cX12_readRights 83 = .ok (.iconst 1, 1) := by decide +kernel
theorem dX12_readRights_84 : decode cX12_readRights 84 = .ok (.iadd, 1) := by decide +kernel
theorem dX12_readRights_85 : decode cX12_readRights 85 = .ok (.putfield 229, 3) := by decide +kernel
theorem dX12_readRights_88 : decode cX12_readRights 88 = .ok (.iinc 1 1, 3) := by decide +kernel
theorem dX12_readRights_91 : decode cX12_readRights 91 = .ok (.goto (-68), 3) := by decide +kernel
theorem dX12_readRights_94 : decode cX12_readRights 94 = .ok (.aload_n 0, 1) := by decide +kernel
theorem dX12_readRights_95 : decode cX12_readRights 95 = .ok (.getfield 124, 3) := by decide +kernel
theorem dX12_readRights_98 : decode cX12_readRights 98 = .ok (.ifCond .le 7, 3) := by decide +kernel
theorem dX12_readRights_101 : decode cX12_readRights 101 = .ok (.iconst 1, 1) := by decide +kernel
theorem dX12_readRights_102 : decode cX12_readRights 102 = .ok (.goto 4, 3) := by decide +kernel
theorem dX12_readRights_105 : decode cX12_readRights 105 = .ok (.iconst 0, 1) := by decide +kernel
theorem dX12_readRights_106 : decode cX12_readRights 106 = .ok (.ireturn, 1) := by decide +kernel
theorem dX12_readPassed_0 : decode cX12_readPassed 0 = .ok (.aload_n 0, 1) := by decide +kernel
theorem dX12_readPassed_1 : decode cX12_readPassed 1 = .ok (.iconst (-1), 1) := by decide +kernel
theorem dX12_readPassed_2 : decode cX12_readPassed 2 = .ok (.putfield 127, 3) := by decide +kernel
theorem dX12_readPassed_5 : decode cX12_readPassed 5 = .ok (.aload_n 0, 1) := by decide +kernel
theorem dX12_readPassed_6 : decode cX12_readPassed 6 = .ok (.invokevirtual 235, 3) := by decide +kernel
theorem dX12_readPassed_9 : decode cX12_readPassed 9 = .ok (.bipush 45, 2) := by decide +kernel
theorem dX12_readPassed_11 : decode cX12_readPassed 11 = .ok (.if_icmp .ne 10, 3) := by decide +kernel
theorem dX12_readPassed_14 : decode cX12_readPassed 14 = .ok (.aload_n 0, 1) := by decide +kernel
theorem dX12_readPassed_15 : decode cX12_readPassed 15 = .ok (.bipush 45, 2) := by decide +kernel
theorem dX12_readPassed_17 : decode cX12_readPassed 17 = .ok (.invokevirtual 243, 3) := by decide +kernel
theorem dX12_readPassed_20 : decode cX12_readPassed 20 = .ok (.ireturn, 1) := by decide +kernel
theorem dX12_readPassed_21 : decode cX12_readPassed 21 = .ok (.aload_n 0, 1) := by decide +kernel
theorem dX12_readPassed_22 : decode cX12_readPassed 22 = .ok (.invokevirtual 235, 3) := by decide +kernel
theorem dX12_readPassed_25 : decode cX12_readPassed 25 = .ok (.bipush 97, 2) := by decide +kernel
theorem dX12_readPassed_27 : decode cX12_readPassed 27 = .ok (.isub, 1) := by decide +kernel
theorem dX12_readPassed_28 : decode cX12_readPassed 28 = .ok (.istore_n 1, 1) := by decide +kernel
theorem dX12_readPassed_29 : decode cX12_readPassed 29 = .ok (.aload_n 0, 1) := by decide +kernel
theorem dX12_readPassed_30 : decode cX12_readPassed 30 = .ok (.dup, 1) := by decide +kernel
theorem dX12_readPassed_31 : decode cX12_readPassed 31 = .ok (.getfield 229, 3) := by decide +kernel
theorem dX12_readPassed_34 : decode cX12_readPassed 34 = .ok (.iconst 1, 1) := by decide +kernel
theorem dX12_readPassed_35 : decode cX12_readPassed 35 = .ok (.iadd, 1) := by decide +kernel
theorem dX12_readPassed_36 : decode cX12_readPassed 36 = .ok (.putfield 229, 3) := by decide +kernel
theorem dX12_readPassed_39 : decode cX12_readPassed 39 = .ok (.aload_n 0, 1) := by decide +kernel
theorem dX12_readPassed_40 : decode cX12_readPassed 40 = .ok (.invokevirtual 235, 3) := by decide +kernel
theorem dX12_readPassed_43 : decode cX12_readPassed 43 = .ok (.bipush 49, 2) := by decide +kernel
theorem dX12_readPassed_45 : decode cX12_readPassed 45 = .ok (.isub, 1) := by decide +kernel
theorem dX12_readPassed_46 : decode cX12_readPassed 46 = .ok (.istore_n 2, 1) := by decide +kernel
theorem dX12_readPassed_47 : decode cX12_readPassed 47 = .ok (.aload_n 0, 1) := by decide +kernel
theorem dX12_readPassed_48 : decode cX12_readPassed 48 = .ok (.dup, 1) := by decide +kernel
theorem dX12_readPassed_49 : decode cX12_readPassed 49 = .ok (.getfield 229, 3) := by decide +kernel
theorem dX12_readPassed_52 : decode cX12_readPassed 52 = .ok (.iconst 1, 1) := by decide +kernel
theorem dX12_readPassed_53 : decode cX12_readPassed 53 = .ok (.iadd, 1) := by decide +kernel
theorem dX12_readPassed_54 : decode cX12_readPassed 54 = .ok (.putfield 229, 3) := by decide +kernel
theorem dX12_readPassed_57 : decode cX12_readPassed 57 = .ok (.aload_n 0, 1) := by decide +kernel
theorem dX12_readPassed_58 : decode cX12_readPassed 58 = .ok (.iload_n 1, 1) := by decide +kernel
theorem dX12_readPassed_59 : decode cX12_readPassed 59 = .ok (.ifCond .lt 28, 3) := by decide +kernel
theorem dX12_readPassed_62 : decode cX12_readPassed 62 = .ok (.iload_n 1, 1) := by decide +kernel
theorem dX12_readPassed_63 : decode cX12_readPassed 63 = .ok (.bipush 8, 2) := by decide +kernel
theorem dX12_readPassed_65 : decode cX12_readPassed 65 = .ok (.if_icmp .ge 22, 3) := by decide +kernel
theorem dX12_readPassed_68 : decode cX12_readPassed 68 = .ok (.iload_n 2, 1) := by decide +kernel
theorem dX12_readPassed_69 : decode cX12_readPassed 69 = .ok (.ifCond .lt 18, 3) := by decide +kernel
theorem dX12_readPassed_72 : decode cX12_readPassed 72 = .ok (.iload_n 2, 1) := by decide +kernel
theorem dX12_readPassed_73 : decode cX12_readPassed 73 = .ok (.bipush 8, 2) := by decide +kernel
theorem dX12_readPassed_75 : decode cX12_readPassed 75 = .ok (.if_icmp .ge 12, 3) := by decide +kernel
theorem dX12_readPassed_78 : decode cX12_readPassed 78 = .ok (.bipush 8, 2) := by decide +kernel
theorem dX12_readPassed_80 : decode cX12_readPassed 80 = .ok (.iload_n 2, 1) := by decide +kernel
theorem dX12_readPassed_81 : decode cX12_readPassed 81 = .ok (.imul, 1) := by decide +kernel
theorem dX12_readPassed_82 : decode cX12_readPassed 82 = .ok (.iload_n 1, 1) := by decide +kernel
theorem dX12_readPassed_83 : decode cX12_readPassed 83 = .ok (.iadd, 1) := by decide +kernel
theorem dX12_readPassed_84 : decode cX12_readPassed 84 = .ok (.goto 4, 3) := by decide +kernel
theorem dX12_readPassed_87 : decode cX12_readPassed 87 = .ok (.iconst (-1), 1) := by decide +kernel
theorem dX12_readPassed_88 : decode cX12_readPassed 88 = .ok (.putfield 127, 3) := by decide +kernel
theorem dX12_readPassed_91 : decode cX12_readPassed 91 = .ok (.aload_n 0, 1) := by decide +kernel
theorem dX12_readPassed_92 : decode cX12_readPassed 92 = .ok (.getfield 127, 3) := by decide +kernel
theorem dX12_readPassed_95 : decode cX12_readPassed 95 = .ok (.ifCond .lt 7, 3) := by decide +kernel
theorem dX12_readPassed_98 : decode cX12_readPassed 98 = .ok (.iconst 1, 1) := by decide +kernel
theorem dX12_readPassed_99 : decode cX12_readPassed 99 = .ok (.goto 4, 3) := by decide +kernel
theorem dX12_readPassed_102 : decode cX12_readPassed 102 = .ok (.iconst 0, 1) := by decide +kernel
theorem dX12_readPassed_103 : decode cX12_readPassed 103 = .ok (.ireturn, 1) := by decide +kernel
theorem dX12_countOf_0 : decode cX12_countOf 0 = .ok (.iconst 0, 1) := by decide +kernel
theorem dX12_countOf_1 : decode cX12_countOf 1 = .ok (.istore_n 2, 1) := by decide +kernel
theorem dX12_countOf_2 : decode cX12_countOf 2 = .ok (.iconst 0, 1) := by decide +kernel
theorem dX12_countOf_3 : decode cX12_countOf 3 = .ok (.istore_n 3, 1) := by decide +kernel
theorem dX12_countOf_4 : decode cX12_countOf 4 = .ok (.iload_n 3, 1) := by decide +kernel
theorem dX12_countOf_5 : decode cX12_countOf 5 = .ok (.bipush 64, 2) := by decide +kernel
theorem dX12_countOf_7 : decode cX12_countOf 7 = .ok (.if_icmp .ge 27, 3) := by decide +kernel
theorem dX12_countOf_10 : decode cX12_countOf 10 = .ok (.aload_n 0, 1) := by decide +kernel
theorem dX12_countOf_11 : decode cX12_countOf 11 = .ok (.getfield 70, 3) := by decide +kernel
theorem dX12_countOf_14 : decode cX12_countOf 14 = .ok (.iload_n 3, 1) := by decide +kernel
theorem dX12_countOf_15 : decode cX12_countOf 15 = .ok (.iaload, 1) := by decide +kernel
theorem dX12_countOf_16 : decode cX12_countOf 16 = .ok (.iload_n 1, 1) := by decide +kernel
theorem dX12_countOf_17 : decode cX12_countOf 17 = .ok (.if_icmp .ne 9, 3) := by decide +kernel
theorem dX12_countOf_20 : decode cX12_countOf 20 = .ok (.iload_n 2, 1) := by decide +kernel
theorem dX12_countOf_21 : decode cX12_countOf 21 = .ok (.iconst 1, 1) := by decide +kernel
theorem dX12_countOf_22 : decode cX12_countOf 22 = .ok (.iadd, 1) := by decide +kernel
theorem dX12_countOf_23 : decode cX12_countOf 23 = .ok (.goto 4, 3) := by decide +kernel
theorem dX12_countOf_26 : decode cX12_countOf 26 = .ok (.iload_n 2, 1) := by decide +kernel
theorem dX12_countOf_27 : decode cX12_countOf 27 = .ok (.istore_n 2, 1) := by decide +kernel
theorem dX12_countOf_28 : decode cX12_countOf 28 = .ok (.iinc 3 1, 3) := by decide +kernel
theorem dX12_countOf_31 : decode cX12_countOf 31 = .ok (.goto (-27), 3) := by decide +kernel
theorem dX12_countOf_34 : decode cX12_countOf 34 = .ok (.iload_n 2, 1) := by decide +kernel
theorem dX12_countOf_35 : decode cX12_countOf 35 = .ok (.ireturn, 1) := by decide +kernel
theorem dX12_mayStand_0 : decode cX12_mayStand 0 = .ok (.aload_n 0, 1) := by decide +kernel
theorem dX12_mayStand_1 : decode cX12_mayStand 1 = .ok (.bipush 6, 2) := by decide +kernel
theorem dX12_mayStand_3 : decode cX12_mayStand 3 = .ok (.invokevirtual 247, 3) := by decide +kernel
theorem dX12_mayStand_6 : decode cX12_mayStand 6 = .ok (.iconst 1, 1) := by decide +kernel
theorem dX12_mayStand_7 : decode cX12_mayStand 7 = .ok (.if_icmp .ne 13, 3) := by decide +kernel
theorem dX12_mayStand_10 : decode cX12_mayStand 10 = .ok (.aload_n 0, 1) := by decide +kernel
theorem dX12_mayStand_11 : decode cX12_mayStand 11 = .ok (.bipush 14, 2) := by decide +kernel
theorem dX12_mayStand_13 : decode cX12_mayStand 13 = .ok (.invokevirtual 247, 3) := by decide +kernel
theorem dX12_mayStand_16 : decode cX12_mayStand 16 = .ok (.iconst 1, 1) := by decide +kernel
theorem dX12_mayStand_17 : decode cX12_mayStand 17 = .ok (.if_icmp .eq 5, 3) := by decide +kernel
theorem dX12_mayStand_20 : decode cX12_mayStand 20 = .ok (.iconst 0, 1) := by decide +kernel
theorem dX12_mayStand_21 : decode cX12_mayStand 21 = .ok (.ireturn, 1) := by decide +kernel
theorem dX12_mayStand_22 : decode cX12_mayStand 22 = .ok (.iconst 1, 1) := by decide +kernel
theorem dX12_mayStand_23 : decode cX12_mayStand 23 = .ok (.istore_n 1, 1) := by decide +kernel
theorem dX12_mayStand_24 : decode cX12_mayStand 24 = .ok (.iconst 0, 1) := by decide +kernel
theorem dX12_mayStand_25 : decode cX12_mayStand 25 = .ok (.istore_n 2, 1) := by decide +kernel
theorem dX12_mayStand_26 : decode cX12_mayStand 26 = .ok (.iload_n 2, 1) := by decide +kernel
theorem dX12_mayStand_27 : decode cX12_mayStand 27 = .ok (.bipush 8, 2) := by decide +kernel
theorem dX12_mayStand_29 : decode cX12_mayStand 29 = .ok (.if_icmp .ge 48, 3) := by decide +kernel
theorem dX12_mayStand_32 : decode cX12_mayStand 32 = .ok (.iload_n 1, 1) := by decide +kernel
theorem dX12_mayStand_33 : decode cX12_mayStand 33 = .ok (.ifCond .eq 36, 3) := by decide +kernel
theorem dX12_mayStand_36 : decode cX12_mayStand 36 = .ok (.aload_n 0, 1) := by decide +kernel
theorem dX12_mayStand_37 : decode cX12_mayStand 37 = .ok (.getfield 70, 3) := by decide +kernel
theorem dX12_mayStand_40 : decode cX12_mayStand 40 = .ok (.iload_n 2, 1) := by decide +kernel
theorem dX12_mayStand_41 : decode cX12_mayStand 41 = .ok (.iaload, 1) := by decide +kernel
theorem dX12_mayStand_42 : decode cX12_mayStand 42 = .ok (.invokestatic 136, 3) := by decide +kernel
theorem dX12_mayStand_45 : decode cX12_mayStand 45 = .ok (.iconst 1, 1) := by decide +kernel
theorem dX12_mayStand_46 : decode cX12_mayStand 46 = .ok (.if_icmp .eq 23, 3) := by decide +kernel
theorem dX12_mayStand_49 : decode cX12_mayStand 49 = .ok (.aload_n 0, 1) := by decide +kernel
theorem dX12_mayStand_50 : decode cX12_mayStand 50 = .ok (.getfield 70, 3) := by decide +kernel
theorem dX12_mayStand_53 : decode cX12_mayStand 53 = .ok (.bipush 56, 2) := by decide +kernel
theorem dX12_mayStand_55 : decode cX12_mayStand 55 = .ok (.iload_n 2, 1) := by decide +kernel
theorem dX12_mayStand_56 : decode cX12_mayStand 56 = .ok (.iadd, 1) := by decide +kernel
theorem dX12_mayStand_57 : decode cX12_mayStand 57 = .ok (.iaload, 1) := by decide +kernel
theorem dX12_mayStand_58 : decode cX12_mayStand 58 = .ok (.invokestatic 136, 3) := by decide +kernel
theorem dX12_mayStand_61 : decode cX12_mayStand 61 = .ok (.iconst 1, 1) := by decide +kernel
theorem dX12_mayStand_62 : decode cX12_mayStand 62 = .ok (.if_icmp .eq 7, 3) := by decide +kernel
theorem dX12_mayStand_65 : decode cX12_mayStand 65 = .ok (.iconst 1, 1) := by decide +kernel
theorem dX12_mayStand_66 : decode cX12_mayStand 66 = .ok (.goto 4, 3) := by decide +kernel
theorem dX12_mayStand_69 : decode cX12_mayStand 69 = .ok (.iconst 0, 1) := by decide +kernel
theorem dX12_mayStand_70 : decode cX12_mayStand 70 = .ok (.istore_n 1, 1) := by decide +kernel
theorem dX12_mayStand_71 : decode cX12_mayStand 71 = .ok (.iinc 2 1, 3) := by decide +kernel
theorem dX12_mayStand_74 : decode cX12_mayStand 74 = .ok (.goto (-48), 3) := by decide +kernel
theorem dX12_mayStand_77 : decode cX12_mayStand 77 = .ok (.iload_n 1, 1) := by decide +kernel
theorem dX12_mayStand_78 : decode cX12_mayStand 78 = .ok (.ifCond .eq 20, 3) := by decide +kernel
theorem dX12_mayStand_81 : decode cX12_mayStand 81 = .ok (.aload_n 0, 1) := by decide +kernel
theorem dX12_mayStand_82 : decode cX12_mayStand 82 = .ok (.iconst 1, 1) := by decide +kernel
theorem dX12_mayStand_83 : decode cX12_mayStand 83 = .ok (.aload_n 0, 1) := by decide +kernel
theorem dX12_mayStand_84 : decode cX12_mayStand 84 = .ok (.getfield 121, 3) := by decide +kernel
theorem dX12_mayStand_87 : decode cX12_mayStand 87 = .ok (.isub, 1) := by decide +kernel
theorem dX12_mayStand_88 : decode cX12_mayStand 88 = .ok (.invokevirtual 152, 3) := by decide +kernel
theorem dX12_mayStand_91 : decode cX12_mayStand 91 = .ok (.ifCond .ne 7, 3) := by decide +kernel
theorem dX12_mayStand_94 : decode cX12_mayStand 94 = .ok (.iconst 1, 1) := by decide +kernel
theorem dX12_mayStand_95 : decode cX12_mayStand 95 = .ok (.goto 4, 3) := by decide +kernel
theorem dX12_mayStand_98 : decode cX12_mayStand 98 = .ok (.iconst 0, 1) := by decide +kernel
theorem dX12_mayStand_99 : decode cX12_mayStand 99 = .ok (.istore_n 1, 1) := by decide +kernel
theorem dX12_mayStand_100 : decode cX12_mayStand 100 = .ok (.iconst 0, 1) := by decide +kernel
theorem dX12_mayStand_101 : decode cX12_mayStand 101 = .ok (.istore_n 2, 1) := by decide +kernel
theorem dX12_mayStand_102 : decode cX12_mayStand 102 = .ok (.iload_n 2, 1) := by decide +kernel
theorem dX12_mayStand_103 : decode cX12_mayStand 103 = .ok (.iconst 4, 1) := by decide +kernel
theorem dX12_mayStand_104 : decode cX12_mayStand 104 = .ok (.if_icmp .ge 87, 3) := by decide +kernel
theorem dX12_mayStand_107 : decode cX12_mayStand 107 = .ok (.bipush 56, 2) := by decide +kernel
theorem dX12_mayStand_109 : decode cX12_mayStand 109 = .ok (.iload_n 2, 1) := by decide +kernel
theorem dX12_mayStand_110 : decode cX12_mayStand 110 = .ok (.iconst 2, 1) := by decide +kernel
theorem dX12_mayStand_111 : decode cX12_mayStand 111 = .ok (.idiv, 1) := by decide +kernel
theorem dX12_mayStand_112 : decode cX12_mayStand 112 = .ok (.imul, 1) := by decide +kernel
theorem dX12_mayStand_113 : decode cX12_mayStand 113 = .ok (.istore_n 3, 1) := by decide +kernel
theorem dX12_mayStand_114 : decode cX12_mayStand 114 = .ok (.bipush 8, 2) := by decide +kernel
theorem dX12_mayStand_116 : decode cX12_mayStand 116 = .ok (.iload_n 2, 1) := by decide +kernel
theorem dX12_mayStand_117 : decode cX12_mayStand 117 = .ok (.iconst 2, 1) := by decide +kernel
theorem dX12_mayStand_118 : decode cX12_mayStand 118 = .ok (.idiv, 1) := by decide +kernel
theorem dX12_mayStand_119 : decode cX12_mayStand 119 = .ok (.imul, 1) := by decide +kernel
theorem dX12_mayStand_120 : decode cX12_mayStand 120 = .ok (.istore 4, 2) := by decide +kernel
theorem dX12_mayStand_122 : decode cX12_mayStand 122 = .ok (.iload_n 1, 1) := by decide +kernel
theorem dX12_mayStand_123 : decode cX12_mayStand 123 = .ok (.ifCond .eq 60, 3) := by decide +kernel
theorem dX12_mayStand_126 : decode cX12_mayStand 126 = .ok (.aload_n 0, 1) := by decide +kernel
theorem dX12_mayStand_127 : decode cX12_mayStand 127 = .ok (.getfield 124, 3) := by decide +kernel
theorem dX12_mayStand_130 : decode cX12_mayStand 130 = .ok (.iload_n 2, 1) := by decide +kernel
theorem dX12_mayStand_131 : decode cX12_mayStand 131 = .ok (.ishr, 1) := by decide +kernel
theorem dX12_mayStand_132 : decode cX12_mayStand 132 = .ok (.iconst 1, 1) := by decide +kernel
theorem dX12_mayStand_133 : decode cX12_mayStand 133 = .ok (.iand, 1) := by decide +kernel
theorem dX12_mayStand_134 : decode cX12_mayStand 134 = .ok (.ifCond .eq 45, 3) := by decide +kernel
theorem dX12_mayStand_137 : decode cX12_mayStand 137 = .ok (.aload_n 0, 1) := by decide +kernel
theorem dX12_mayStand_138 : decode cX12_mayStand 138 = .ok (.getfield 70, 3) := by decide +kernel
theorem dX12_mayStand_141 : decode cX12_mayStand 141 = .ok (.iload_n 3, 1) := by decide +kernel
theorem dX12_mayStand_142 : decode cX12_mayStand 142 = .ok (.iconst 4, 1) := by decide +kernel
theorem dX12_mayStand_143 : decode cX12_mayStand 143 = .ok (.iadd, 1) := by decide +kernel
theorem dX12_mayStand_144 : decode cX12_mayStand 144 = .ok (.iaload, 1) := by decide +kernel
theorem dX12_mayStand_145 : decode cX12_mayStand 145 = .ok (.bipush 6, 2) := by decide +kernel
theorem dX12_mayStand_147 : decode cX12_mayStand 147 = .ok (.iload 4, 2) := by decide +kernel
theorem dX12_mayStand_149 : decode cX12_mayStand 149 = .ok (.iadd, 1) := by decide +kernel
theorem dX12_mayStand_150 : decode cX12_mayStand 150 = .ok (.if_icmp .ne 33, 3) := by decide +kernel
theorem dX12_mayStand_153 : decode cX12_mayStand 153 = .ok (.aload_n 0, 1) := by decide +kernel
theorem dX12_mayStand_154 : decode cX12_mayStand 154 = .ok (.getfield 70, 3) := by decide +kernel
theorem dX12_mayStand_157 : decode cX12_mayStand 157 = .ok (.iload_n 3, 1) := by decide +kernel
theorem dX12_mayStand_158 : decode cX12_mayStand 158 = .ok (.iload_n 2, 1) := by decide +kernel
theorem dX12_mayStand_159 : decode cX12_mayStand 159 = .ok (.iconst 2, 1) := by decide +kernel
theorem dX12_mayStand_160 : decode cX12_mayStand 160 = .ok (.irem, 1) := by decide +kernel
theorem dX12_mayStand_161 : decode cX12_mayStand 161 = .ok (.ifCond .ne 8, 3) := by decide +kernel
theorem dX12_mayStand_164 : decode cX12_mayStand 164 = .ok (.bipush 7, 2) := by decide +kernel
theorem dX12_mayStand_166 : decode cX12_mayStand 166 = .ok (.goto 4, 3) := by decide +kernel
theorem dX12_mayStand_169 : decode cX12_mayStand 169 = .ok (.iconst 0, 1) := by decide +kernel
theorem dX12_mayStand_170 : decode cX12_mayStand 170 = .ok (.iadd, 1) := by decide +kernel
theorem dX12_mayStand_171 : decode cX12_mayStand 171 = .ok (.iaload, 1) := by decide +kernel
theorem dX12_mayStand_172 : decode cX12_mayStand 172 = .ok (.iconst 4, 1) := by decide +kernel
theorem dX12_mayStand_173 : decode cX12_mayStand 173 = .ok (.iload 4, 2) := by decide +kernel
theorem dX12_mayStand_175 : decode cX12_mayStand 175 = .ok (.iadd, 1) := by decide +kernel
theorem dX12_mayStand_176 : decode cX12_mayStand 176 = .ok (.if_icmp .ne 7, 3) := by decide +kernel
theorem dX12_mayStand_179 : decode cX12_mayStand 179 = .ok (.iconst 1, 1) := by decide +kernel
theorem dX12_mayStand_180 : decode cX12_mayStand 180 = .ok (.goto 4, 3) := by decide +kernel
theorem dX12_mayStand_183 : decode cX12_mayStand 183 = .ok (.iconst 0, 1) := by decide +kernel
theorem dX12_mayStand_184 : decode cX12_mayStand 184 = .ok (.istore_n 1, 1) := by decide +kernel
theorem dX12_mayStand_185 : decode cX12_mayStand 185 = .ok (.iinc 2 1, 3) := by decide +kernel
theorem dX12_mayStand_188 : decode cX12_mayStand 188 = .ok (.goto (-86), 3) := by decide +kernel
theorem dX12_mayStand_191 : decode cX12_mayStand 191 = .ok (.aload_n 0, 1) := by decide +kernel
theorem dX12_mayStand_192 : decode cX12_mayStand 192 = .ok (.getfield 127, 3) := by decide +kernel
theorem dX12_mayStand_195 : decode cX12_mayStand 195 = .ok (.ifCond .lt 7, 3) := by decide +kernel
theorem dX12_mayStand_198 : decode cX12_mayStand 198 = .ok (.iload_n 1, 1) := by decide +kernel
theorem dX12_mayStand_199 : decode cX12_mayStand 199 = .ok (.ifCond .ne 5, 3) := by decide +kernel
theorem dX12_mayStand_202 : decode cX12_mayStand 202 = .ok (.iload_n 1, 1) := by decide +kernel
theorem dX12_mayStand_203 : decode cX12_mayStand 203 = .ok (.ireturn, 1) := by decide +kernel
theorem dX12_mayStand_204 : decode cX12_mayStand 204 = .ok (.aload_n 0, 1) := by decide +kernel
theorem dX12_mayStand_205 : decode cX12_mayStand 205 = .ok (.getfield 121, 3) := by decide +kernel
theorem dX12_mayStand_208 : decode cX12_mayStand 208 = .ok (.ifCond .ne 8, 3) := by decide +kernel
theorem dX12_mayStand_211 : decode cX12_mayStand 211 = .ok (.bipush 8, 2) := by decide +kernel
theorem dX12_mayStand_213 : decode cX12_mayStand 213 = .ok (.goto 5, 3) := by decide +kernel
theorem dX12_mayStand_216 : decode cX12_mayStand 216 = .ok (.bipush (-8), 2) := by decide +kernel
theorem dX12_mayStand_218 : decode cX12_mayStand 218 = .ok (.istore_n 2, 1) := by decide +kernel
theorem dX12_mayStand_219 : decode cX12_mayStand 219 = .ok (.aload_n 0, 1) := by decide +kernel
theorem dX12_mayStand_220 : decode cX12_mayStand 220 = .ok (.getfield 127, 3) := by decide +kernel
theorem dX12_mayStand_223 : decode cX12_mayStand 223 = .ok (.bipush 8, 2) := by decide +kernel
theorem dX12_mayStand_225 : decode cX12_mayStand 225 = .ok (.idiv, 1) := by decide +kernel
theorem dX12_mayStand_226 : decode cX12_mayStand 226 = .ok (.aload_n 0, 1) := by decide +kernel
theorem dX12_mayStand_227 : decode cX12_mayStand 227 = .ok (.getfield 121, 3) := by decide +kernel
theorem dX12_mayStand_230 : decode cX12_mayStand 230 = .ok (.ifCond .ne 7, 3) := by decide +kernel
theorem dX12_mayStand_233 : decode cX12_mayStand 233 = .ok (.iconst 5, 1) := by decide +kernel
theorem dX12_mayStand_234 : decode cX12_mayStand 234 = .ok (.goto 4, 3) := by decide +kernel
theorem dX12_mayStand_237 : decode cX12_mayStand 237 = .ok (.iconst 2, 1) := by decide +kernel
theorem dX12_mayStand_238 : decode cX12_mayStand 238 = .ok (.if_icmp .ne 19, 3) := by decide +kernel
theorem dX12_mayStand_241 : decode cX12_mayStand 241 = .ok (.aload_n 0, 1) := by decide +kernel
theorem dX12_mayStand_242 : decode cX12_mayStand 242 = .ok (.getfield 70, 3) := by decide +kernel
theorem dX12_mayStand_245 : decode cX12_mayStand 245 = .ok (.aload_n 0, 1) := by decide +kernel
theorem dX12_mayStand_246 : decode cX12_mayStand 246 = .ok (.getfield 127, 3) := by decide +kernel
theorem dX12_mayStand_249 : decode cX12_mayStand 249 = .ok (.iaload, 1) := by decide +kernel
theorem dX12_mayStand_250 : decode cX12_mayStand 250 = .ok (.ifCond .ne 7, 3) := by decide +kernel
theorem dX12_mayStand_253 : decode cX12_mayStand 253 = .ok (.iconst 1, 1) := by decide +kernel
theorem dX12_mayStand_254 : decode cX12_mayStand 254 = .ok (.goto 4, 3) := by decide +kernel
theorem dX12_mayStand_257 : decode cX12_mayStand 257 = .ok (.iconst 0, 1) := by decide +kernel
theorem dX12_mayStand_258 : decode cX12_mayStand 258 = .ok (.istore_n 3, 1) := by decide +kernel
theorem dX12_mayStand_259 : decode cX12_mayStand 259 = .ok (.iload_n 3, 1) := by decide +kernel
theorem dX12_mayStand_260 : decode cX12_mayStand 260 = .ok (.ifCond .eq 46, 3) := by decide +kernel
theorem dX12_mayStand_263 : decode cX12_mayStand 263 = .ok (.aload_n 0, 1) := by decide +kernel
theorem dX12_mayStand_264 : decode cX12_mayStand 264 = .ok (.getfield 70, 3) := by decide +kernel
theorem dX12_mayStand_267 : decode cX12_mayStand 267 = .ok (.aload_n 0, 1) := by decide +kernel
theorem dX12_mayStand_268 : decode cX12_mayStand 268 = .ok (.getfield 127, 3) := by decide +kernel
theorem dX12_mayStand_271 : decode cX12_mayStand 271 = .ok (.iload_n 2, 1) := by decide +kernel
theorem dX12_mayStand_272 : decode cX12_mayStand 272 = .ok (.iadd, 1) := by decide +kernel
theorem dX12_mayStand_273 : decode cX12_mayStand 273 = .ok (.iaload, 1) := by decide +kernel
theorem dX12_mayStand_274 : decode cX12_mayStand 274 = .ok (.ifCond .ne 32, 3) := by decide +kernel
theorem dX12_mayStand_277 : decode cX12_mayStand 277 = .ok (.aload_n 0, 1) := by decide +kernel
theorem dX12_mayStand_278 : decode cX12_mayStand 278 = .ok (.getfield 70, 3) := by decide +kernel
theorem dX12_mayStand_281 : decode cX12_mayStand 281 = .ok (.aload_n 0, 1) := by decide +kernel
theorem dX12_mayStand_282 : decode cX12_mayStand 282 = .ok (.getfield 127, 3) := by decide +kernel
theorem dX12_mayStand_285 : decode cX12_mayStand 285 = .ok (.iload_n 2, 1) := by decide +kernel
theorem dX12_mayStand_286 : decode cX12_mayStand 286 = .ok (.isub, 1) := by decide +kernel
theorem dX12_mayStand_287 : decode cX12_mayStand 287 = .ok (.iaload, 1) := by decide +kernel
theorem dX12_mayStand_288 : decode cX12_mayStand 288 = .ok (.iconst 1, 1) := by decide +kernel
theorem dX12_mayStand_289 : decode cX12_mayStand 289 = .ok (.bipush 8, 2) := by decide +kernel
theorem dX12_mayStand_291 : decode cX12_mayStand 291 = .ok (.iconst 1, 1) := by decide +kernel
theorem dX12_mayStand_292 : decode cX12_mayStand 292 = .ok (.aload_n 0, 1) := by decide +kernel
theorem dX12_mayStand_293 : decode cX12_mayStand 293 = .ok (.getfield 121, 3) := by decide +kernel
theorem dX12_mayStand_296 : decode cX12_mayStand 296 = .ok (.isub, 1) := by decide +kernel
theorem dX12_mayStand_297 : decode cX12_mayStand 297 = .ok (.imul, 1) := by decide +kernel
theorem dX12_mayStand_298 : decode cX12_mayStand 298 = .ok (.iadd, 1) := by decide +kernel
theorem dX12_mayStand_299 : decode cX12_mayStand 299 = .ok (.if_icmp .ne 7, 3) := by decide +kernel
theorem dX12_mayStand_302 : decode cX12_mayStand 302 = .ok (.iconst 1, 1) := by decide +kernel
theorem dX12_mayStand_303 : decode cX12_mayStand 303 = .ok (.goto 4, 3) := by decide +kernel
theorem dX12_mayStand_306 : decode cX12_mayStand 306 = .ok (.iconst 0, 1) := by decide +kernel
theorem dX12_mayStand_307 : decode cX12_mayStand 307 = .ok (.istore_n 3, 1) := by decide +kernel
theorem dX12_mayStand_308 : decode cX12_mayStand 308 = .ok (.aload_n 0, 1) := by decide +kernel
theorem dX12_mayStand_309 : decode cX12_mayStand 309 = .ok (.getfield 121, 3) := by decide +kernel
theorem dX12_mayStand_312 : decode cX12_mayStand 312 = .ok (.ifCond .ne 7, 3) := by decide +kernel
theorem dX12_mayStand_315 : decode cX12_mayStand 315 = .ok (.iconst (-1), 1) := by decide +kernel
theorem dX12_mayStand_316 : decode cX12_mayStand 316 = .ok (.goto 4, 3) := by decide +kernel
theorem dX12_mayStand_319 : decode cX12_mayStand 319 = .ok (.iconst 1, 1) := by decide +kernel
theorem dX12_mayStand_320 : decode cX12_mayStand 320 = .ok (.istore 4, 2) := by decide +kernel
theorem dX12_mayStand_322 : decode cX12_mayStand 322 = .ok (.iload_n 3, 1) := by decide +kernel
theorem dX12_mayStand_323 : decode cX12_mayStand 323 = .ok (.ifCond .eq 59, 3) := by decide +kernel
theorem dX12_mayStand_326 : decode cX12_mayStand 326 = .ok (.aload_n 0, 1) := by decide +kernel
theorem dX12_mayStand_327 : decode cX12_mayStand 327 = .ok (.aload_n 0, 1) := by decide +kernel
theorem dX12_mayStand_328 : decode cX12_mayStand 328 = .ok (.getfield 127, 3) := by decide +kernel
theorem dX12_mayStand_331 : decode cX12_mayStand 331 = .ok (.iconst (-1), 1) := by decide +kernel
theorem dX12_mayStand_332 : decode cX12_mayStand 332 = .ok (.iload 4, 2) := by decide +kernel
theorem dX12_mayStand_334 : decode cX12_mayStand 334 = .ok (.invokestatic 103, 3) := by decide +kernel
theorem dX12_mayStand_337 : decode cX12_mayStand 337 = .ok (.iconst 1, 1) := by decide +kernel
theorem dX12_mayStand_338 : decode cX12_mayStand 338 = .ok (.bipush 8, 2) := by decide +kernel
theorem dX12_mayStand_340 : decode cX12_mayStand 340 = .ok (.aload_n 0, 1) := by decide +kernel
theorem dX12_mayStand_341 : decode cX12_mayStand 341 = .ok (.getfield 121, 3) := by decide +kernel
theorem dX12_mayStand_344 : decode cX12_mayStand 344 = .ok (.imul, 1) := by decide +kernel
theorem dX12_mayStand_345 : decode cX12_mayStand 345 = .ok (.iadd, 1) := by decide +kernel
theorem dX12_mayStand_346 : decode cX12_mayStand 346 = .ok (.invokevirtual 107, 3) := by decide +kernel
theorem dX12_mayStand_349 : decode cX12_mayStand 349 = .ok (.ifCond .ne 29, 3) := by decide +kernel
theorem dX12_mayStand_352 : decode cX12_mayStand 352 = .ok (.aload_n 0, 1) := by decide +kernel
theorem dX12_mayStand_353 : decode cX12_mayStand 353 = .ok (.aload_n 0, 1) := by decide +kernel
theorem dX12_mayStand_354 : decode cX12_mayStand 354 = .ok (.getfield 127, 3) := by decide +kernel
theorem dX12_mayStand_357 : decode cX12_mayStand 357 = .ok (.iconst 1, 1) := by decide +kernel
theorem dX12_mayStand_358 : decode cX12_mayStand 358 = .ok (.iload 4, 2) := by decide +kernel
theorem dX12_mayStand_360 : decode cX12_mayStand 360 = .ok (.invokestatic 103, 3) := by decide +kernel
theorem dX12_mayStand_363 : decode cX12_mayStand 363 = .ok (.iconst 1, 1) := by decide +kernel
theorem dX12_mayStand_364 : decode cX12_mayStand 364 = .ok (.bipush 8, 2) := by decide +kernel
theorem dX12_mayStand_366 : decode cX12_mayStand 366 = .ok (.aload_n 0, 1) := by decide +kernel
theorem dX12_mayStand_367 : decode cX12_mayStand 367 = .ok (.getfield 121, 3) := by decide +kernel
theorem dX12_mayStand_370 : decode cX12_mayStand 370 = .ok (.imul, 1) := by decide +kernel
theorem dX12_mayStand_371 : decode cX12_mayStand 371 = .ok (.iadd, 1) := by decide +kernel
theorem dX12_mayStand_372 : decode cX12_mayStand 372 = .ok (.invokevirtual 107, 3) := by decide +kernel
theorem dX12_mayStand_375 : decode cX12_mayStand 375 = .ok (.ifCond .eq 7, 3) := by decide +kernel
theorem dX12_mayStand_378 : decode cX12_mayStand 378 = .ok (.iconst 1, 1) := by decide +kernel
theorem dX12_mayStand_379 : decode cX12_mayStand 379 = .ok (.goto 4, 3) := by decide +kernel
theorem dX12_mayStand_382 : decode cX12_mayStand 382 = .ok (.iconst 0, 1) := by decide +kernel
theorem dX12_mayStand_383 : decode cX12_mayStand 383 = .ok (.ireturn, 1) := by decide +kernel
theorem dX12_readPosition_0 : decode cX12_readPosition 0 = .ok (.aload_n 0, 1) := by decide +kernel
theorem dX12_readPosition_1 : decode cX12_readPosition 1 = .ok (.iload_n 1, 1) := by decide +kernel
theorem dX12_readPosition_2 : decode cX12_readPosition 2 = .ok (.putfield 229, 3) := by decide +kernel
theorem dX12_readPosition_5 : decode cX12_readPosition 5 = .ok (.aload_n 0, 1) := by decide +kernel
theorem dX12_readPosition_6 : decode cX12_readPosition 6 = .ok (.iload_n 1, 1) := by decide +kernel
theorem dX12_readPosition_7 : decode cX12_readPosition 7 = .ok (.iload_n 2, 1) := by decide +kernel
theorem dX12_readPosition_8 : decode cX12_readPosition 8 = .ok (.iadd, 1) := by decide +kernel
theorem dX12_readPosition_9 : decode cX12_readPosition 9 = .ok (.putfield 232, 3) := by decide +kernel
theorem dX12_readPosition_12 : decode cX12_readPosition 12 = .ok (.iconst 0, 1) := by decide +kernel
theorem dX12_readPosition_13 : decode cX12_readPosition 13 = .ok (.istore_n 3, 1) := by decide +kernel
theorem dX12_readPosition_14 : decode cX12_readPosition 14 = .ok (.iload_n 3, 1) := by decide +kernel
theorem dX12_readPosition_15 : decode cX12_readPosition 15 = .ok (.bipush 64, 2) := by decide +kernel
theorem dX12_readPosition_17 : decode cX12_readPosition 17 = .ok (.if_icmp .ge 16, 3) := by decide +kernel
theorem dX12_readPosition_20 : decode cX12_readPosition 20 = .ok (.aload_n 0, 1) := by decide +kernel
theorem dX12_readPosition_21 : decode cX12_readPosition 21 = .ok (.getfield 70, 3) := by decide +kernel
theorem dX12_readPosition_24 : decode cX12_readPosition 24 = .ok (.iload_n 3, 1) := by decide +kernel
theorem dX12_readPosition_25 : decode cX12_readPosition 25 = .ok (.iconst 0, 1) := by decide +kernel
theorem dX12_readPosition_26 : decode cX12_readPosition 26 = .ok (.iastore, 1) := by decide +kernel
theorem dX12_readPosition_27 : decode cX12_readPosition 27 = .ok (.iinc 3 1, 3) := by decide +kernel
theorem dX12_readPosition_30 : decode cX12_readPosition 30 = .ok (.goto (-16), 3) := by decide +kernel
theorem dX12_readPosition_33 : decode cX12_readPosition 33 = .ok (.iconst 1, 1) := by decide +kernel
theorem dX12_readPosition_34 : decode cX12_readPosition 34 = .ok (.istore_n 3, 1) := by decide +kernel
theorem dX12_readPosition_35 : decode cX12_readPosition 35 = .ok (.bipush 7, 2) := by decide +kernel
theorem dX12_readPosition_37 : decode cX12_readPosition 37 = .ok (.istore 4, 2) := by decide +kernel
theorem dX12_readPosition_39 : decode cX12_readPosition 39 = .ok (.iload 4, 2) := by decide +kernel
theorem dX12_readPosition_41 : decode cX12_readPosition 41 = .ok (.ifCond .lt 47, 3) := by decide +kernel
theorem dX12_readPosition_44 : decode cX12_readPosition 44 = .ok (.iload_n 3, 1) := by decide +kernel
theorem dX12_readPosition_45 : decode cX12_readPosition 45 = .ok (.ifCond .eq 35, 3) := by decide +kernel
theorem dX12_readPosition_48 : decode cX12_readPosition 48 = .ok (.aload_n 0, 1) := by decide +kernel
theorem dX12_readPosition_49 : decode cX12_readPosition 49 = .ok (.iload 4, 2) := by decide +kernel
theorem dX12_readPosition_51 : decode cX12_readPosition 51 = .ok (.invokevirtual 250, 3) := by decide +kernel
theorem dX12_readPosition_54 : decode cX12_readPosition 54 = .ok (.ifCond .eq 26, 3) := by decide +kernel
theorem dX12_readPosition_57 : decode cX12_readPosition 57 = .ok (.aload_n 0, 1) := by decide +kernel
theorem dX12_readPosition_58 : decode cX12_readPosition 58 = .ok (.iload 4, 2) := by decide +kernel
theorem dX12_readPosition_60 : decode cX12_readPosition 60 = .ok (.ifCond .le 8, 3) := by decide +kernel
theorem dX12_readPosition_63 : decode cX12_readPosition 63 = .ok (.bipush 47, 2) := by decide +kernel
theorem dX12_readPosition_65 : decode cX12_readPosition 65 = .ok (.goto 5, 3) := by decide +kernel
theorem dX12_readPosition_68 : decode cX12_readPosition 68 = .ok (.bipush 32, 2) := by decide +kernel
theorem dX12_readPosition_70 : decode cX12_readPosition 70 = .ok (.invokevirtual 243, 3) := by decide +kernel
theorem dX12_readPosition_73 : decode cX12_readPosition 73 = .ok (.ifCond .eq 7, 3) := by decide +kernel
theorem dX12_readPosition_76 : decode cX12_readPosition 76 = .ok (.iconst 1, 1) := by decide +kernel
theorem dX12_readPosition_77 : decode cX12_readPosition 77 = .ok (.goto 4, 3) := by decide +kernel
theorem dX12_readPosition_80 : decode cX12_readPosition 80 = .ok (.iconst 0, 1) := by decide +kernel
theorem dX12_readPosition_81 : decode cX12_readPosition 81 = .ok (.istore_n 3, 1) := by decide +kernel
theorem dX12_readPosition_82 : decode cX12_readPosition 82 = .ok (.iinc 4 (-1), 3) := by decide +kernel
theorem dX12_readPosition_85 : decode cX12_readPosition 85 = .ok (.goto (-46), 3) := by decide +kernel
theorem dX12_readPosition_88 : decode cX12_readPosition 88 = .ok (.iload_n 3, 1) := by decide +kernel
theorem dX12_readPosition_89 : decode cX12_readPosition 89 = .ok (.ifCond .ne 5, 3) := by decide +kernel
theorem dX12_readPosition_92 : decode cX12_readPosition 92 = .ok (.iconst 0, 1) := by decide +kernel
theorem dX12_readPosition_93 : decode cX12_readPosition 93 = .ok (.ireturn, 1) := by decide +kernel
theorem dX12_readPosition_94 : decode cX12_readPosition 94 = .ok (.aload_n 0, 1) := by decide +kernel
theorem dX12_readPosition_95 : decode cX12_readPosition 95 = .ok (.aload_n 0, 1) := by decide +kernel
theorem dX12_readPosition_96 : decode cX12_readPosition 96 = .ok (.invokevirtual 235, 3) := by decide +kernel
theorem dX12_readPosition_99 : decode cX12_readPosition 99 = .ok (.bipush 119, 2) := by decide +kernel
theorem dX12_readPosition_101 : decode cX12_readPosition 101 = .ok (.if_icmp .ne 7, 3) := by decide +kernel
theorem dX12_readPosition_104 : decode cX12_readPosition 104 = .ok (.iconst 0, 1) := by decide +kernel
end
