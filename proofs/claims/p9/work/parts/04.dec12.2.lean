theorem dX12_readPosition_105 : decode cX12_readPosition 105 = .ok (.goto 4, 3) := by decide +kernel
theorem dX12_readPosition_108 : decode cX12_readPosition 108 = .ok (.iconst 1, 1) := by decide +kernel
theorem dX12_readPosition_109 : decode cX12_readPosition 109 = .ok (.putfield 121, 3) := by decide +kernel
theorem dX12_readPosition_112 : decode cX12_readPosition 112 = .ok (.aload_n 0, 1) := by decide +kernel
theorem dX12_readPosition_113 : decode cX12_readPosition 113 = .ok (.invokevirtual 235, 3) := by decide +kernel
theorem dX12_readPosition_116 : decode cX12_readPosition 116 = .ok (.bipush 119, 2) := by decide +kernel
theorem dX12_readPosition_118 : decode cX12_readPosition 118 = .ok (.if_icmp .eq 12, 3) := by decide +kernel
theorem dX12_readPosition_121 : decode cX12_readPosition 121 = .ok (.aload_n 0, 1) := by decide +kernel
theorem dX12_readPosition_122 : decode cX12_readPosition 122 = .ok (.invokevirtual 235, 3) := by decide +kernel
theorem dX12_readPosition_125 : decode cX12_readPosition 125 = .ok (.bipush 98, 2) := by decide +kernel
theorem dX12_readPosition_127 : decode cX12_readPosition 127 = .ok (.if_icmp .ne 7, 3) := by decide +kernel
theorem dX12_readPosition_130 : decode cX12_readPosition 130 = .ok (.iconst 1, 1) := by decide +kernel
theorem dX12_readPosition_131 : decode cX12_readPosition 131 = .ok (.goto 4, 3) := by decide +kernel
theorem dX12_readPosition_134 : decode cX12_readPosition 134 = .ok (.iconst 0, 1) := by decide +kernel
theorem dX12_readPosition_135 : decode cX12_readPosition 135 = .ok (.istore_n 3, 1) := by decide +kernel
theorem dX12_readPosition_136 : decode cX12_readPosition 136 = .ok (.aload_n 0, 1) := by decide +kernel
theorem dX12_readPosition_137 : decode cX12_readPosition 137 = .ok (.dup, 1) := by decide +kernel
theorem dX12_readPosition_138 : decode cX12_readPosition 138 = .ok (.getfield 229, 3) := by decide +kernel
theorem dX12_readPosition_141 : decode cX12_readPosition 141 = .ok (.iconst 1, 1) := by decide +kernel
theorem dX12_readPosition_142 : decode cX12_readPosition 142 = .ok (.iadd, 1) := by decide +kernel
theorem dX12_readPosition_143 : decode cX12_readPosition 143 = .ok (.putfield 229, 3) := by decide +kernel
theorem dX12_readPosition_146 : decode cX12_readPosition 146 = .ok (.iload_n 3, 1) := by decide +kernel
theorem dX12_readPosition_147 : decode cX12_readPosition 147 = .ok (.ifCond .eq 48, 3) := by decide +kernel
theorem dX12_readPosition_150 : decode cX12_readPosition 150 = .ok (.aload_n 0, 1) := by decide +kernel
theorem dX12_readPosition_151 : decode cX12_readPosition 151 = .ok (.bipush 32, 2) := by decide +kernel
theorem dX12_readPosition_153 : decode cX12_readPosition 153 = .ok (.invokevirtual 243, 3) := by decide +kernel
theorem dX12_readPosition_156 : decode cX12_readPosition 156 = .ok (.ifCond .eq 39, 3) := by decide +kernel
theorem dX12_readPosition_159 : decode cX12_readPosition 159 = .ok (.aload_n 0, 1) := by decide +kernel
theorem dX12_readPosition_160 : decode cX12_readPosition 160 = .ok (.invokevirtual 253, 3) := by decide +kernel
theorem dX12_readPosition_163 : decode cX12_readPosition 163 = .ok (.ifCond .eq 32, 3) := by decide +kernel
theorem dX12_readPosition_166 : decode cX12_readPosition 166 = .ok (.aload_n 0, 1) := by decide +kernel
theorem dX12_readPosition_167 : decode cX12_readPosition 167 = .ok (.bipush 32, 2) := by decide +kernel
theorem dX12_readPosition_169 : decode cX12_readPosition 169 = .ok (.invokevirtual 243, 3) := by decide +kernel
theorem dX12_readPosition_172 : decode cX12_readPosition 172 = .ok (.ifCond .eq 23, 3) := by decide +kernel
theorem dX12_readPosition_175 : decode cX12_readPosition 175 = .ok (.aload_n 0, 1) := by decide +kernel
theorem dX12_readPosition_176 : decode cX12_readPosition 176 = .ok (.invokevirtual 257, 3) := by decide +kernel
theorem dX12_readPosition_179 : decode cX12_readPosition 179 = .ok (.ifCond .eq 16, 3) := by decide +kernel
theorem dX12_readPosition_182 : decode cX12_readPosition 182 = .ok (.aload_n 0, 1) := by decide +kernel
theorem dX12_readPosition_183 : decode cX12_readPosition 183 = .ok (.bipush 32, 2) := by decide +kernel
theorem dX12_readPosition_185 : decode cX12_readPosition 185 = .ok (.invokevirtual 243, 3) := by decide +kernel
theorem dX12_readPosition_188 : decode cX12_readPosition 188 = .ok (.ifCond .eq 7, 3) := by decide +kernel
theorem dX12_readPosition_191 : decode cX12_readPosition 191 = .ok (.iconst 1, 1) := by decide +kernel
theorem dX12_readPosition_192 : decode cX12_readPosition 192 = .ok (.goto 4, 3) := by decide +kernel
theorem dX12_readPosition_195 : decode cX12_readPosition 195 = .ok (.iconst 0, 1) := by decide +kernel
theorem dX12_readPosition_196 : decode cX12_readPosition 196 = .ok (.istore_n 3, 1) := by decide +kernel
theorem dX12_readPosition_197 : decode cX12_readPosition 197 = .ok (.aload_n 0, 1) := by decide +kernel
theorem dX12_readPosition_198 : decode cX12_readPosition 198 = .ok (.iload_n 3, 1) := by decide +kernel
theorem dX12_readPosition_199 : decode cX12_readPosition 199 = .ok (.ifCond .eq 10, 3) := by decide +kernel
theorem dX12_readPosition_202 : decode cX12_readPosition 202 = .ok (.aload_n 0, 1) := by decide +kernel
theorem dX12_readPosition_203 : decode cX12_readPosition 203 = .ok (.invokevirtual 260, 3) := by decide +kernel
theorem dX12_readPosition_206 : decode cX12_readPosition 206 = .ok (.goto 4, 3) := by decide +kernel
theorem dX12_readPosition_209 : decode cX12_readPosition 209 = .ok (.iconst (-1), 1) := by decide +kernel
theorem dX12_readPosition_210 : decode cX12_readPosition 210 = .ok (.putfield 130, 3) := by decide +kernel
theorem dX12_readPosition_213 : decode cX12_readPosition 213 = .ok (.iload_n 3, 1) := by decide +kernel
theorem dX12_readPosition_214 : decode cX12_readPosition 214 = .ok (.ifCond .eq 23, 3) := by decide +kernel
theorem dX12_readPosition_217 : decode cX12_readPosition 217 = .ok (.aload_n 0, 1) := by decide +kernel
theorem dX12_readPosition_218 : decode cX12_readPosition 218 = .ok (.getfield 130, 3) := by decide +kernel
theorem dX12_readPosition_221 : decode cX12_readPosition 221 = .ok (.ifCond .lt 16, 3) := by decide +kernel
theorem dX12_readPosition_224 : decode cX12_readPosition 224 = .ok (.aload_n 0, 1) := by decide +kernel
theorem dX12_readPosition_225 : decode cX12_readPosition 225 = .ok (.bipush 32, 2) := by decide +kernel
theorem dX12_readPosition_227 : decode cX12_readPosition 227 = .ok (.invokevirtual 243, 3) := by decide +kernel
theorem dX12_readPosition_230 : decode cX12_readPosition 230 = .ok (.ifCond .eq 7, 3) := by decide +kernel
theorem dX12_readPosition_233 : decode cX12_readPosition 233 = .ok (.iconst 1, 1) := by decide +kernel
theorem dX12_readPosition_234 : decode cX12_readPosition 234 = .ok (.goto 4, 3) := by decide +kernel
theorem dX12_readPosition_237 : decode cX12_readPosition 237 = .ok (.iconst 0, 1) := by decide +kernel
theorem dX12_readPosition_238 : decode cX12_readPosition 238 = .ok (.istore_n 3, 1) := by decide +kernel
theorem dX12_readPosition_239 : decode cX12_readPosition 239 = .ok (.aload_n 0, 1) := by decide +kernel
theorem dX12_readPosition_240 : decode cX12_readPosition 240 = .ok (.iload_n 3, 1) := by decide +kernel
theorem dX12_readPosition_241 : decode cX12_readPosition 241 = .ok (.ifCond .eq 10, 3) := by decide +kernel
theorem dX12_readPosition_244 : decode cX12_readPosition 244 = .ok (.aload_n 0, 1) := by decide +kernel
theorem dX12_readPosition_245 : decode cX12_readPosition 245 = .ok (.invokevirtual 260, 3) := by decide +kernel
theorem dX12_readPosition_248 : decode cX12_readPosition 248 = .ok (.goto 4, 3) := by decide +kernel
theorem dX12_readPosition_251 : decode cX12_readPosition 251 = .ok (.iconst (-1), 1) := by decide +kernel
theorem dX12_readPosition_252 : decode cX12_readPosition 252 = .ok (.putfield 133, 3) := by decide +kernel
theorem dX12_readPosition_255 : decode cX12_readPosition 255 = .ok (.iload_n 3, 1) := by decide +kernel
theorem dX12_readPosition_256 : decode cX12_readPosition 256 = .ok (.ifCond .eq 32, 3) := by decide +kernel
theorem dX12_readPosition_259 : decode cX12_readPosition 259 = .ok (.aload_n 0, 1) := by decide +kernel
theorem dX12_readPosition_260 : decode cX12_readPosition 260 = .ok (.getfield 133, 3) := by decide +kernel
theorem dX12_readPosition_263 : decode cX12_readPosition 263 = .ok (.ifCond .le 25, 3) := by decide +kernel
theorem dX12_readPosition_266 : decode cX12_readPosition 266 = .ok (.aload_n 0, 1) := by decide +kernel
theorem dX12_readPosition_267 : decode cX12_readPosition 267 = .ok (.getfield 229, 3) := by decide +kernel
theorem dX12_readPosition_270 : decode cX12_readPosition 270 = .ok (.aload_n 0, 1) := by decide +kernel
theorem dX12_readPosition_271 : decode cX12_readPosition 271 = .ok (.getfield 232, 3) := by decide +kernel
theorem dX12_readPosition_274 : decode cX12_readPosition 274 = .ok (.if_icmp .ne 14, 3) := by decide +kernel
theorem dX12_readPosition_277 : decode cX12_readPosition 277 = .ok (.aload_n 0, 1) := by decide +kernel
theorem dX12_readPosition_278 : decode cX12_readPosition 278 = .ok (.invokevirtual 264, 3) := by decide +kernel
theorem dX12_readPosition_281 : decode cX12_readPosition 281 = .ok (.ifCond .eq 7, 3) := by decide +kernel
theorem dX12_readPosition_284 : decode cX12_readPosition 284 = .ok (.iconst 1, 1) := by decide +kernel
theorem dX12_readPosition_285 : decode cX12_readPosition 285 = .ok (.goto 4, 3) := by decide +kernel
theorem dX12_readPosition_288 : decode cX12_readPosition 288 = .ok (.iconst 0, 1) := by decide +kernel
theorem dX12_readPosition_289 : decode cX12_readPosition 289 = .ok (.ireturn, 1) := by decide +kernel
theorem dX12_look_0 : decode cX12_look 0 = .ok (.aload_n 0, 1) := by decide +kernel
theorem dX12_look_1 : decode cX12_look 1 = .ok (.getfield 267, 3) := by decide +kernel
theorem dX12_look_4 : decode cX12_look 4 = .ok (.aload_n 0, 1) := by decide +kernel
theorem dX12_look_5 : decode cX12_look 5 = .ok (.getfield 270, 3) := by decide +kernel
theorem dX12_look_8 : decode cX12_look 8 = .ok (.if_icmp .ge 15, 3) := by decide +kernel
theorem dX12_look_11 : decode cX12_look 11 = .ok (.aload_n 0, 1) := by decide +kernel
theorem dX12_look_12 : decode cX12_look 12 = .ok (.getfield 7, 3) := by decide +kernel
theorem dX12_look_15 : decode cX12_look 15 = .ok (.aload_n 0, 1) := by decide +kernel
theorem dX12_look_16 : decode cX12_look 16 = .ok (.getfield 267, 3) := by decide +kernel
theorem dX12_look_19 : decode cX12_look 19 = .ok (.caload, 1) := by decide +kernel
theorem dX12_look_20 : decode cX12_look 20 = .ok (.goto 4, 3) := by decide +kernel
theorem dX12_look_23 : decode cX12_look 23 = .ok (.iconst 0, 1) := by decide +kernel
theorem dX12_look_24 : decode cX12_look 24 = .ok (.ireturn, 1) := by decide +kernel
theorem dX12_blanks_0 : decode cX12_blanks 0 = .ok (.aload_n 0, 1) := by decide +kernel
theorem dX12_blanks_1 : decode cX12_blanks 1 = .ok (.getfield 267, 3) := by decide +kernel
theorem dX12_blanks_4 : decode cX12_blanks 4 = .ok (.aload_n 0, 1) := by decide +kernel
theorem dX12_blanks_5 : decode cX12_blanks 5 = .ok (.getfield 270, 3) := by decide +kernel
theorem dX12_blanks_8 : decode cX12_blanks 8 = .ok (.if_icmp .ge 44, 3) := by decide +kernel
theorem dX12_blanks_11 : decode cX12_blanks 11 = .ok (.aload_n 0, 1) := by decide +kernel
theorem dX12_blanks_12 : decode cX12_blanks 12 = .ok (.getfield 7, 3) := by decide +kernel
theorem dX12_blanks_15 : decode cX12_blanks 15 = .ok (.aload_n 0, 1) := by decide +kernel
theorem dX12_blanks_16 : decode cX12_blanks 16 = .ok (.getfield 267, 3) := by decide +kernel
theorem dX12_blanks_19 : decode cX12_blanks 19 = .ok (.caload, 1) := by decide +kernel
theorem dX12_blanks_20 : decode cX12_blanks 20 = .ok (.bipush 32, 2) := by decide +kernel
theorem dX12_blanks_22 : decode cX12_blanks 22 = .ok (.if_icmp .eq 17, 3) := by decide +kernel
theorem dX12_blanks_25 : decode cX12_blanks 25 = .ok (.aload_n 0, 1) := by decide +kernel
theorem dX12_blanks_26 : decode cX12_blanks 26 = .ok (.getfield 7, 3) := by decide +kernel
theorem dX12_blanks_29 : decode cX12_blanks 29 = .ok (.aload_n 0, 1) := by decide +kernel
theorem dX12_blanks_30 : decode cX12_blanks 30 = .ok (.getfield 267, 3) := by decide +kernel
theorem dX12_blanks_33 : decode cX12_blanks 33 = .ok (.caload, 1) := by decide +kernel
theorem dX12_blanks_34 : decode cX12_blanks 34 = .ok (.bipush 10, 2) := by decide +kernel
theorem dX12_blanks_36 : decode cX12_blanks 36 = .ok (.if_icmp .ne 16, 3) := by decide +kernel
theorem dX12_blanks_39 : decode cX12_blanks 39 = .ok (.aload_n 0, 1) := by decide +kernel
theorem dX12_blanks_40 : decode cX12_blanks 40 = .ok (.dup, 1) := by decide +kernel
theorem dX12_blanks_41 : decode cX12_blanks 41 = .ok (.getfield 267, 3) := by decide +kernel
theorem dX12_blanks_44 : decode cX12_blanks 44 = .ok (.iconst 1, 1) := by decide +kernel
theorem dX12_blanks_45 : decode cX12_blanks 45 = .ok (.iadd, 1) := by decide +kernel
theorem dX12_blanks_46 : decode cX12_blanks 46 = .ok (.putfield 267, 3) := by decide +kernel
theorem dX12_blanks_49 : decode cX12_blanks 49 = .ok (.goto (-49), 3) := by decide +kernel
theorem dX12_blanks_52 : decode cX12_blanks 52 = .ok (.return_, 1) := by decide +kernel
theorem dX12_fault_0 : decode cX12_fault 0 = .ok (.sipush 10000, 3) := by decide +kernel
theorem dX12_fault_3 : decode cX12_fault 3 = .ok (.iload_n 0, 1) := by decide +kernel
theorem dX12_fault_4 : decode cX12_fault 4 = .ok (.imul, 1) := by decide +kernel
theorem dX12_fault_5 : decode cX12_fault 5 = .ok (.iload_n 1, 1) := by decide +kernel
theorem dX12_fault_6 : decode cX12_fault 6 = .ok (.iadd, 1) := by decide +kernel
theorem dX12_fault_7 : decode cX12_fault 7 = .ok (.ireturn, 1) := by decide +kernel
theorem dX12_isLetter_0 : decode cX12_isLetter 0 = .ok (.iload_n 0, 1) := by decide +kernel
theorem dX12_isLetter_1 : decode cX12_isLetter 1 = .ok (.bipush 97, 2) := by decide +kernel
theorem dX12_isLetter_3 : decode cX12_isLetter 3 = .ok (.if_icmp .lt 9, 3) := by decide +kernel
theorem dX12_isLetter_6 : decode cX12_isLetter 6 = .ok (.iload_n 0, 1) := by decide +kernel
theorem dX12_isLetter_7 : decode cX12_isLetter 7 = .ok (.bipush 122, 2) := by decide +kernel
theorem dX12_isLetter_9 : decode cX12_isLetter 9 = .ok (.if_icmp .le 15, 3) := by decide +kernel
theorem dX12_isLetter_12 : decode cX12_isLetter 12 = .ok (.iload_n 0, 1) := by decide +kernel
theorem dX12_isLetter_13 : decode cX12_isLetter 13 = .ok (.bipush 65, 2) := by decide +kernel
theorem dX12_isLetter_15 : decode cX12_isLetter 15 = .ok (.if_icmp .lt 13, 3) := by decide +kernel
theorem dX12_isLetter_18 : decode cX12_isLetter 18 = .ok (.iload_n 0, 1) := by decide +kernel
theorem dX12_isLetter_19 : decode cX12_isLetter 19 = .ok (.bipush 90, 2) := by decide +kernel
theorem dX12_isLetter_21 : decode cX12_isLetter 21 = .ok (.if_icmp .gt 7, 3) := by decide +kernel
theorem dX12_isLetter_24 : decode cX12_isLetter 24 = .ok (.iconst 1, 1) := by decide +kernel
theorem dX12_isLetter_25 : decode cX12_isLetter 25 = .ok (.goto 4, 3) := by decide +kernel
theorem dX12_isLetter_28 : decode cX12_isLetter 28 = .ok (.iconst 0, 1) := by decide +kernel
theorem dX12_isLetter_29 : decode cX12_isLetter 29 = .ok (.ireturn, 1) := by decide +kernel
theorem dX12_isDigit_0 : decode cX12_isDigit 0 = .ok (.iload_n 0, 1) := by decide +kernel
theorem dX12_isDigit_1 : decode cX12_isDigit 1 = .ok (.bipush 48, 2) := by decide +kernel
theorem dX12_isDigit_3 : decode cX12_isDigit 3 = .ok (.if_icmp .lt 13, 3) := by decide +kernel
theorem dX12_isDigit_6 : decode cX12_isDigit 6 = .ok (.iload_n 0, 1) := by decide +kernel
theorem dX12_isDigit_7 : decode cX12_isDigit 7 = .ok (.bipush 57, 2) := by decide +kernel
theorem dX12_isDigit_9 : decode cX12_isDigit 9 = .ok (.if_icmp .gt 7, 3) := by decide +kernel
theorem dX12_isDigit_12 : decode cX12_isDigit 12 = .ok (.iconst 1, 1) := by decide +kernel
theorem dX12_isDigit_13 : decode cX12_isDigit 13 = .ok (.goto 4, 3) := by decide +kernel
theorem dX12_isDigit_16 : decode cX12_isDigit 16 = .ok (.iconst 0, 1) := by decide +kernel
theorem dX12_isDigit_17 : decode cX12_isDigit 17 = .ok (.ireturn, 1) := by decide +kernel
theorem dX12_isTag_0 : decode cX12_isTag 0 = .ok (.iload_n 3, 1) := by decide +kernel
theorem dX12_isTag_1 : decode cX12_isTag 1 = .ok (.ifCond .ne 7, 3) := by decide +kernel
theorem dX12_isTag_4 : decode cX12_isTag 4 = .ok (.iconst 3, 1) := by decide +kernel
theorem dX12_isTag_5 : decode cX12_isTag 5 = .ok (.goto 5, 3) := by decide +kernel
theorem dX12_isTag_8 : decode cX12_isTag 8 = .ok (.bipush 6, 2) := by decide +kernel
theorem dX12_isTag_10 : decode cX12_isTag 10 = .ok (.istore 4, 2) := by decide +kernel
theorem dX12_isTag_12 : decode cX12_isTag 12 = .ok (.aload_n 0, 1) := by decide +kernel
theorem dX12_isTag_13 : decode cX12_isTag 13 = .ok (.getfield 55, 3) := by decide +kernel
theorem dX12_isTag_16 : decode cX12_isTag 16 = .ok (.bipush 8, 2) := by decide +kernel
theorem dX12_isTag_18 : decode cX12_isTag 18 = .ok (.iload_n 2, 1) := by decide +kernel
theorem dX12_isTag_19 : decode cX12_isTag 19 = .ok (.imul, 1) := by decide +kernel
theorem dX12_isTag_20 : decode cX12_isTag 20 = .ok (.iload_n 1, 1) := by decide +kernel
theorem dX12_isTag_21 : decode cX12_isTag 21 = .ok (.iadd, 1) := by decide +kernel
theorem dX12_isTag_22 : decode cX12_isTag 22 = .ok (.iaload, 1) := by decide +kernel
theorem dX12_isTag_23 : decode cX12_isTag 23 = .ok (.iload 4, 2) := by decide +kernel
theorem dX12_isTag_25 : decode cX12_isTag 25 = .ok (.if_icmp .ne 7, 3) := by decide +kernel
theorem dX12_isTag_28 : decode cX12_isTag 28 = .ok (.iconst 1, 1) := by decide +kernel
theorem dX12_isTag_29 : decode cX12_isTag 29 = .ok (.goto 4, 3) := by decide +kernel
theorem dX12_isTag_32 : decode cX12_isTag 32 = .ok (.iconst 0, 1) := by decide +kernel
theorem dX12_isTag_33 : decode cX12_isTag 33 = .ok (.istore 5, 2) := by decide +kernel
theorem dX12_isTag_35 : decode cX12_isTag 35 = .ok (.iconst 0, 1) := by decide +kernel
theorem dX12_isTag_36 : decode cX12_isTag 36 = .ok (.istore 6, 2) := by decide +kernel
theorem dX12_isTag_38 : decode cX12_isTag 38 = .ok (.iload 6, 2) := by decide +kernel
theorem dX12_isTag_40 : decode cX12_isTag 40 = .ok (.iload 4, 2) := by decide +kernel
theorem dX12_isTag_42 : decode cX12_isTag 42 = .ok (.if_icmp .ge 131, 3) := by decide +kernel
theorem dX12_isTag_45 : decode cX12_isTag 45 = .ok (.iload 5, 2) := by decide +kernel
theorem dX12_isTag_47 : decode cX12_isTag 47 = .ok (.ifCond .eq 126, 3) := by decide +kernel
theorem dX12_isTag_50 : decode cX12_isTag 50 = .ok (.iload_n 3, 1) := by decide +kernel
theorem dX12_isTag_51 : decode cX12_isTag 51 = .ok (.ifCond .ne 29, 3) := by decide +kernel
theorem dX12_isTag_54 : decode cX12_isTag 54 = .ok (.iload 6, 2) := by decide +kernel
theorem dX12_isTag_56 : decode cX12_isTag 56 = .ok (.ifCond .ne 8, 3) := by decide +kernel
theorem dX12_isTag_59 : decode cX12_isTag 59 = .ok (.bipush 70, 2) := by decide +kernel
theorem dX12_isTag_61 : decode cX12_isTag 61 = .ok (.goto 75, 3) := by decide +kernel
theorem dX12_isTag_64 : decode cX12_isTag 64 = .ok (.iload 6, 2) := by decide +kernel
theorem dX12_isTag_66 : decode cX12_isTag 66 = .ok (.iconst 1, 1) := by decide +kernel
theorem dX12_isTag_67 : decode cX12_isTag 67 = .ok (.if_icmp .ne 8, 3) := by decide +kernel
theorem dX12_isTag_70 : decode cX12_isTag 70 = .ok (.bipush 69, 2) := by decide +kernel
theorem dX12_isTag_72 : decode cX12_isTag 72 = .ok (.goto 64, 3) := by decide +kernel
theorem dX12_isTag_75 : decode cX12_isTag 75 = .ok (.bipush 78, 2) := by decide +kernel
theorem dX12_isTag_77 : decode cX12_isTag 77 = .ok (.goto 59, 3) := by decide +kernel
theorem dX12_isTag_80 : decode cX12_isTag 80 = .ok (.iload 6, 2) := by decide +kernel
theorem dX12_isTag_82 : decode cX12_isTag 82 = .ok (.ifCond .ne 8, 3) := by decide +kernel
theorem dX12_isTag_85 : decode cX12_isTag 85 = .ok (.bipush 82, 2) := by decide +kernel
theorem dX12_isTag_87 : decode cX12_isTag 87 = .ok (.goto 49, 3) := by decide +kernel
theorem dX12_isTag_90 : decode cX12_isTag 90 = .ok (.iload 6, 2) := by decide +kernel
theorem dX12_isTag_92 : decode cX12_isTag 92 = .ok (.iconst 1, 1) := by decide +kernel
theorem dX12_isTag_93 : decode cX12_isTag 93 = .ok (.if_icmp .ne 8, 3) := by decide +kernel
theorem dX12_isTag_96 : decode cX12_isTag 96 = .ok (.bipush 101, 2) := by decide +kernel
theorem dX12_isTag_98 : decode cX12_isTag 98 = .ok (.goto 38, 3) := by decide +kernel
theorem dX12_isTag_101 : decode cX12_isTag 101 = .ok (.iload 6, 2) := by decide +kernel
theorem dX12_isTag_103 : decode cX12_isTag 103 = .ok (.iconst 2, 1) := by decide +kernel
theorem dX12_isTag_104 : decode cX12_isTag 104 = .ok (.if_icmp .ne 8, 3) := by decide +kernel
theorem dX12_isTag_107 : decode cX12_isTag 107 = .ok (.bipush 115, 2) := by decide +kernel
theorem dX12_isTag_109 : decode cX12_isTag 109 = .ok (.goto 27, 3) := by decide +kernel
theorem dX12_isTag_112 : decode cX12_isTag 112 = .ok (.iload 6, 2) := by decide +kernel
theorem dX12_isTag_114 : decode cX12_isTag 114 = .ok (.iconst 3, 1) := by decide +kernel
theorem dX12_isTag_115 : decode cX12_isTag 115 = .ok (.if_icmp .ne 8, 3) := by decide +kernel
theorem dX12_isTag_118 : decode cX12_isTag 118 = .ok (.bipush 117, 2) := by decide +kernel
theorem dX12_isTag_120 : decode cX12_isTag 120 = .ok (.goto 16, 3) := by decide +kernel
theorem dX12_isTag_123 : decode cX12_isTag 123 = .ok (.iload 6, 2) := by decide +kernel
theorem dX12_isTag_125 : decode cX12_isTag 125 = .ok (.iconst 4, 1) := by decide +kernel
theorem dX12_isTag_126 : decode cX12_isTag 126 = .ok (.if_icmp .ne 8, 3) := by decide +kernel
theorem dX12_isTag_129 : decode cX12_isTag 129 = .ok (.bipush 108, 2) := by decide +kernel
theorem dX12_isTag_131 : decode cX12_isTag 131 = .ok (.goto 5, 3) := by decide +kernel
theorem dX12_isTag_134 : decode cX12_isTag 134 = .ok (.bipush 116, 2) := by decide +kernel
theorem dX12_isTag_136 : decode cX12_isTag 136 = .ok (.istore 7, 2) := by decide +kernel
theorem dX12_isTag_138 : decode cX12_isTag 138 = .ok (.aload_n 0, 1) := by decide +kernel
theorem dX12_isTag_139 : decode cX12_isTag 139 = .ok (.getfield 58, 3) := by decide +kernel
theorem dX12_isTag_142 : decode cX12_isTag 142 = .ok (.bipush 96, 2) := by decide +kernel
theorem dX12_isTag_144 : decode cX12_isTag 144 = .ok (.iload_n 2, 1) := by decide +kernel
theorem dX12_isTag_145 : decode cX12_isTag 145 = .ok (.imul, 1) := by decide +kernel
theorem dX12_isTag_146 : decode cX12_isTag 146 = .ok (.bipush 12, 2) := by decide +kernel
theorem dX12_isTag_148 : decode cX12_isTag 148 = .ok (.iload_n 1, 1) := by decide +kernel
theorem dX12_isTag_149 : decode cX12_isTag 149 = .ok (.imul, 1) := by decide +kernel
theorem dX12_isTag_150 : decode cX12_isTag 150 = .ok (.iadd, 1) := by decide +kernel
theorem dX12_isTag_151 : decode cX12_isTag 151 = .ok (.iload 6, 2) := by decide +kernel
theorem dX12_isTag_153 : decode cX12_isTag 153 = .ok (.iadd, 1) := by decide +kernel
theorem dX12_isTag_154 : decode cX12_isTag 154 = .ok (.caload, 1) := by decide +kernel
theorem dX12_isTag_155 : decode cX12_isTag 155 = .ok (.iload 7, 2) := by decide +kernel
theorem dX12_isTag_157 : decode cX12_isTag 157 = .ok (.if_icmp .ne 7, 3) := by decide +kernel
theorem dX12_isTag_160 : decode cX12_isTag 160 = .ok (.iconst 1, 1) := by decide +kernel
theorem dX12_isTag_161 : decode cX12_isTag 161 = .ok (.goto 4, 3) := by decide +kernel
theorem dX12_isTag_164 : decode cX12_isTag 164 = .ok (.iconst 0, 1) := by decide +kernel
theorem dX12_isTag_165 : decode cX12_isTag 165 = .ok (.istore 5, 2) := by decide +kernel
theorem dX12_isTag_167 : decode cX12_isTag 167 = .ok (.iinc 6 1, 3) := by decide +kernel
theorem dX12_isTag_170 : decode cX12_isTag 170 = .ok (.goto (-132), 3) := by decide +kernel
theorem dX12_isTag_173 : decode cX12_isTag 173 = .ok (.iload 5, 2) := by decide +kernel
theorem dX12_isTag_175 : decode cX12_isTag 175 = .ok (.ireturn, 1) := by decide +kernel
theorem dX12_isNameThere_0 : decode cX12_isNameThere 0 = .ok (.iconst 0, 1) := by decide +kernel
theorem dX12_isNameThere_1 : decode cX12_isNameThere 1 = .ok (.istore_n 3, 1) := by decide +kernel
theorem dX12_isNameThere_2 : decode cX12_isNameThere 2 = .ok (.iconst 0, 1) := by decide +kernel
theorem dX12_isNameThere_3 : decode cX12_isNameThere 3 = .ok (.istore 4, 2) := by decide +kernel
theorem dX12_isNameThere_5 : decode cX12_isNameThere 5 = .ok (.iload 4, 2) := by decide +kernel
theorem dX12_isNameThere_7 : decode cX12_isNameThere 7 = .ok (.iload_n 2, 1) := by decide +kernel
theorem dX12_isNameThere_8 : decode cX12_isNameThere 8 = .ok (.if_icmp .ge 132, 3) := by decide +kernel
theorem dX12_isNameThere_11 : decode cX12_isNameThere 11 = .ok (.aload_n 0, 1) := by decide +kernel
theorem dX12_isNameThere_12 : decode cX12_isNameThere 12 = .ok (.getfield 55, 3) := by decide +kernel
theorem dX12_isNameThere_15 : decode cX12_isNameThere 15 = .ok (.bipush 8, 2) := by decide +kernel
theorem dX12_isNameThere_17 : decode cX12_isNameThere 17 = .ok (.iload_n 1, 1) := by decide +kernel
theorem dX12_isNameThere_18 : decode cX12_isNameThere 18 = .ok (.imul, 1) := by decide +kernel
theorem dX12_isNameThere_19 : decode cX12_isNameThere 19 = .ok (.iload 4, 2) := by decide +kernel
theorem dX12_isNameThere_21 : decode cX12_isNameThere 21 = .ok (.iadd, 1) := by decide +kernel
theorem dX12_isNameThere_22 : decode cX12_isNameThere 22 = .ok (.iaload, 1) := by decide +kernel
theorem dX12_isNameThere_23 : decode cX12_isNameThere 23 = .ok (.aload_n 0, 1) := by decide +kernel
theorem dX12_isNameThere_24 : decode cX12_isNameThere 24 = .ok (.getfield 55, 3) := by decide +kernel
theorem dX12_isNameThere_27 : decode cX12_isNameThere 27 = .ok (.bipush 8, 2) := by decide +kernel
theorem dX12_isNameThere_29 : decode cX12_isNameThere 29 = .ok (.iload_n 1, 1) := by decide +kernel
theorem dX12_isNameThere_30 : decode cX12_isNameThere 30 = .ok (.imul, 1) := by decide +kernel
theorem dX12_isNameThere_31 : decode cX12_isNameThere 31 = .ok (.iload_n 2, 1) := by decide +kernel
theorem dX12_isNameThere_32 : decode cX12_isNameThere 32 = .ok (.iadd, 1) := by decide +kernel
theorem dX12_isNameThere_33 : decode cX12_isNameThere 33 = .ok (.iaload, 1) := by decide +kernel
theorem dX12_isNameThere_34 : decode cX12_isNameThere 34 = .ok (.if_icmp .ne 7, 3) := by decide +kernel
theorem dX12_isNameThere_37 : decode cX12_isNameThere 37 = .ok (.iconst 1, 1) := by decide +kernel
theorem dX12_isNameThere_38 : decode cX12_isNameThere 38 = .ok (.goto 4, 3) := by decide +kernel
theorem dX12_isNameThere_41 : decode cX12_isNameThere 41 = .ok (.iconst 0, 1) := by decide +kernel
theorem dX12_isNameThere_42 : decode cX12_isNameThere 42 = .ok (.istore 5, 2) := by decide +kernel
theorem dX12_isNameThere_44 : decode cX12_isNameThere 44 = .ok (.iconst 0, 1) := by decide +kernel
theorem dX12_isNameThere_45 : decode cX12_isNameThere 45 = .ok (.istore 6, 2) := by decide +kernel
theorem dX12_isNameThere_47 : decode cX12_isNameThere 47 = .ok (.iload 6, 2) := by decide +kernel
theorem dX12_isNameThere_49 : decode cX12_isNameThere 49 = .ok (.aload_n 0, 1) := by decide +kernel
theorem dX12_isNameThere_50 : decode cX12_isNameThere 50 = .ok (.getfield 55, 3) := by decide +kernel
theorem dX12_isNameThere_53 : decode cX12_isNameThere 53 = .ok (.bipush 8, 2) := by decide +kernel
theorem dX12_isNameThere_55 : decode cX12_isNameThere 55 = .ok (.iload_n 1, 1) := by decide +kernel
theorem dX12_isNameThere_56 : decode cX12_isNameThere 56 = .ok (.imul, 1) := by decide +kernel
theorem dX12_isNameThere_57 : decode cX12_isNameThere 57 = .ok (.iload_n 2, 1) := by decide +kernel
theorem dX12_isNameThere_58 : decode cX12_isNameThere 58 = .ok (.iadd, 1) := by decide +kernel
theorem dX12_isNameThere_59 : decode cX12_isNameThere 59 = .ok (.iaload, 1) := by decide +kernel
theorem dX12_isNameThere_60 : decode cX12_isNameThere 60 = .ok (.if_icmp .ge 59, 3) := by decide +kernel
theorem dX12_isNameThere_63 : decode cX12_isNameThere 63 = .ok (.iload 5, 2) := by decide +kernel
theorem dX12_isNameThere_65 : decode cX12_isNameThere 65 = .ok (.ifCond .eq 54, 3) := by decide +kernel
theorem dX12_isNameThere_68 : decode cX12_isNameThere 68 = .ok (.aload_n 0, 1) := by decide +kernel
theorem dX12_isNameThere_69 : decode cX12_isNameThere 69 = .ok (.getfield 58, 3) := by decide +kernel
theorem dX12_isNameThere_72 : decode cX12_isNameThere 72 = .ok (.bipush 96, 2) := by decide +kernel
theorem dX12_isNameThere_74 : decode cX12_isNameThere 74 = .ok (.iload_n 1, 1) := by decide +kernel
theorem dX12_isNameThere_75 : decode cX12_isNameThere 75 = .ok (.imul, 1) := by decide +kernel
theorem dX12_isNameThere_76 : decode cX12_isNameThere 76 = .ok (.bipush 12, 2) := by decide +kernel
theorem dX12_isNameThere_78 : decode cX12_isNameThere 78 = .ok (.iload 4, 2) := by decide +kernel
theorem dX12_isNameThere_80 : decode cX12_isNameThere 80 = .ok (.imul, 1) := by decide +kernel
theorem dX12_isNameThere_81 : decode cX12_isNameThere 81 = .ok (.iadd, 1) := by decide +kernel
theorem dX12_isNameThere_82 : decode cX12_isNameThere 82 = .ok (.iload 6, 2) := by decide +kernel
theorem dX12_isNameThere_84 : decode cX12_isNameThere 84 = .ok (.iadd, 1) := by decide +kernel
theorem dX12_isNameThere_85 : decode cX12_isNameThere 85 = .ok (.caload, 1) := by decide +kernel
theorem dX12_isNameThere_86 : decode cX12_isNameThere 86 = .ok (.aload_n 0, 1) := by decide +kernel
theorem dX12_isNameThere_87 : decode cX12_isNameThere 87 = .ok (.getfield 58, 3) := by decide +kernel
theorem dX12_isNameThere_90 : decode cX12_isNameThere 90 = .ok (.bipush 96, 2) := by decide +kernel
theorem dX12_isNameThere_92 : decode cX12_isNameThere 92 = .ok (.iload_n 1, 1) := by decide +kernel
theorem dX12_isNameThere_93 : decode cX12_isNameThere 93 = .ok (.imul, 1) := by decide +kernel
theorem dX12_isNameThere_94 : decode cX12_isNameThere 94 = .ok (.bipush 12, 2) := by decide +kernel
theorem dX12_isNameThere_96 : decode cX12_isNameThere 96 = .ok (.iload_n 2, 1) := by decide +kernel
theorem dX12_isNameThere_97 : decode cX12_isNameThere 97 = .ok (.imul, 1) := by decide +kernel
theorem dX12_isNameThere_98 : decode cX12_isNameThere 98 = .ok (.iadd, 1) := by decide +kernel
theorem dX12_isNameThere_99 : decode cX12_isNameThere 99 = .ok (.iload 6, 2) := by decide +kernel
theorem dX12_isNameThere_101 : decode cX12_isNameThere 101 = .ok (.iadd, 1) := by decide +kernel
theorem dX12_isNameThere_102 : decode cX12_isNameThere 102 = .ok (.caload, 1) := by decide +kernel
theorem dX12_isNameThere_103 : decode cX12_isNameThere 103 = .ok (.if_icmp .ne 7, 3) := by decide +kernel
theorem dX12_isNameThere_106 : decode cX12_isNameThere 106 = .ok (.iconst 1, 1) := by decide +kernel
theorem dX12_isNameThere_107 : decode cX12_isNameThere 107 = .ok (.goto 4, 3) := by decide +kernel
theorem dX12_isNameThere_110 : decode cX12_isNameThere 110 = .ok (.iconst 0, 1) := by decide +kernel
theorem dX12_isNameThere_111 : decode cX12_isNameThere 111 = .ok (.istore 5, 2) := by decide +kernel
theorem dX12_isNameThere_113 : decode cX12_isNameThere 113 = .ok (.iinc 6 1, 3) := by decide +kernel
theorem dX12_isNameThere_116 : decode cX12_isNameThere 116 = .ok (.goto (-69), 3) := by decide +kernel
theorem dX12_isNameThere_119 : decode cX12_isNameThere 119 = .ok (.iload_n 3, 1) := by decide +kernel
theorem dX12_isNameThere_120 : decode cX12_isNameThere 120 = .ok (.ifCond .ne 8, 3) := by decide +kernel
theorem dX12_isNameThere_123 : decode cX12_isNameThere 123 = .ok (.iload 5, 2) := by decide +kernel
theorem dX12_isNameThere_125 : decode cX12_isNameThere 125 = .ok (.ifCond .eq 7, 3) := by decide +kernel
theorem dX12_isNameThere_128 : decode cX12_isNameThere 128 = .ok (.iconst 1, 1) := by decide +kernel
theorem dX12_isNameThere_129 : decode cX12_isNameThere 129 = .ok (.goto 4, 3) := by decide +kernel
theorem dX12_isNameThere_132 : decode cX12_isNameThere 132 = .ok (.iconst 0, 1) := by decide +kernel
theorem dX12_isNameThere_133 : decode cX12_isNameThere 133 = .ok (.istore_n 3, 1) := by decide +kernel
theorem dX12_isNameThere_134 : decode cX12_isNameThere 134 = .ok (.iinc 4 1, 3) := by decide +kernel
theorem dX12_isNameThere_137 : decode cX12_isNameThere 137 = .ok (.goto (-132), 3) := by decide +kernel
theorem dX12_isNameThere_140 : decode cX12_isNameThere 140 = .ok (.iload_n 3, 1) := by decide +kernel
theorem dX12_isNameThere_141 : decode cX12_isNameThere 141 = .ok (.ireturn, 1) := by decide +kernel
theorem dX12_readTag_0 : decode cX12_readTag 0 = .ok (.aload_n 0, 1) := by decide +kernel
theorem dX12_readTag_1 : decode cX12_readTag 1 = .ok (.getfield 267, 3) := by decide +kernel
theorem dX12_readTag_4 : decode cX12_readTag 4 = .ok (.istore_n 2, 1) := by decide +kernel
theorem dX12_readTag_5 : decode cX12_readTag 5 = .ok (.aload_n 0, 1) := by decide +kernel
theorem dX12_readTag_6 : decode cX12_readTag 6 = .ok (.getfield 52, 3) := by decide +kernel
theorem dX12_readTag_9 : decode cX12_readTag 9 = .ok (.iload_n 1, 1) := by decide +kernel
theorem dX12_readTag_10 : decode cX12_readTag 10 = .ok (.iaload, 1) := by decide +kernel
theorem dX12_readTag_11 : decode cX12_readTag 11 = .ok (.istore_n 3, 1) := by decide +kernel
theorem dX12_readTag_12 : decode cX12_readTag 12 = .ok (.iload_n 3, 1) := by decide +kernel
theorem dX12_readTag_13 : decode cX12_readTag 13 = .ok (.bipush 8, 2) := by decide +kernel
theorem dX12_readTag_15 : decode cX12_readTag 15 = .ok (.if_icmp .ne 7, 3) := by decide +kernel
theorem dX12_readTag_18 : decode cX12_readTag 18 = .ok (.iconst 1, 1) := by decide +kernel
theorem dX12_readTag_19 : decode cX12_readTag 19 = .ok (.goto 4, 3) := by decide +kernel
theorem dX12_readTag_22 : decode cX12_readTag 22 = .ok (.iconst 0, 1) := by decide +kernel
theorem dX12_readTag_23 : decode cX12_readTag 23 = .ok (.istore 4, 2) := by decide +kernel
theorem dX12_readTag_25 : decode cX12_readTag 25 = .ok (.iconst 0, 1) := by decide +kernel
theorem dX12_readTag_26 : decode cX12_readTag 26 = .ok (.istore 5, 2) := by decide +kernel
theorem dX12_readTag_28 : decode cX12_readTag 28 = .ok (.aload_n 0, 1) := by decide +kernel
theorem dX12_readTag_29 : decode cX12_readTag 29 = .ok (.dup, 1) := by decide +kernel
theorem dX12_readTag_30 : decode cX12_readTag 30 = .ok (.getfield 267, 3) := by decide +kernel
theorem dX12_readTag_33 : decode cX12_readTag 33 = .ok (.iconst 1, 1) := by decide +kernel
theorem dX12_readTag_34 : decode cX12_readTag 34 = .ok (.iadd, 1) := by decide +kernel
theorem dX12_readTag_35 : decode cX12_readTag 35 = .ok (.putfield 267, 3) := by decide +kernel
theorem dX12_readTag_38 : decode cX12_readTag 38 = .ok (.aload_n 0, 1) := by decide +kernel
theorem dX12_readTag_39 : decode cX12_readTag 39 = .ok (.invokevirtual 273, 3) := by decide +kernel
theorem dX12_readTag_42 : decode cX12_readTag 42 = .ok (.aload_n 0, 1) := by decide +kernel
theorem dX12_readTag_43 : decode cX12_readTag 43 = .ok (.invokevirtual 276, 3) := by decide +kernel
theorem dX12_readTag_46 : decode cX12_readTag 46 = .ok (.invokestatic 279, 3) := by decide +kernel
theorem dX12_readTag_49 : decode cX12_readTag 49 = .ok (.ifCond .ne 22, 3) := by decide +kernel
theorem dX12_readTag_52 : decode cX12_readTag 52 = .ok (.aload_n 0, 1) := by decide +kernel
theorem dX12_readTag_53 : decode cX12_readTag 53 = .ok (.invokevirtual 276, 3) := by decide +kernel
theorem dX12_readTag_56 : decode cX12_readTag 56 = .ok (.invokestatic 282, 3) := by decide +kernel
theorem dX12_readTag_59 : decode cX12_readTag 59 = .ok (.ifCond .ne 12, 3) := by decide +kernel
theorem dX12_readTag_62 : decode cX12_readTag 62 = .ok (.iconst 1, 1) := by decide +kernel
theorem dX12_readTag_63 : decode cX12_readTag 63 = .ok (.aload_n 0, 1) := by decide +kernel
theorem dX12_readTag_64 : decode cX12_readTag 64 = .ok (.getfield 267, 3) := by decide +kernel
theorem dX12_readTag_67 : decode cX12_readTag 67 = .ok (.invokestatic 285, 3) := by decide +kernel
theorem dX12_readTag_70 : decode cX12_readTag 70 = .ok (.ireturn, 1) := by decide +kernel
theorem dX12_readTag_71 : decode cX12_readTag 71 = .ok (.aload_n 0, 1) := by decide +kernel
theorem dX12_readTag_72 : decode cX12_readTag 72 = .ok (.invokevirtual 276, 3) := by decide +kernel
theorem dX12_readTag_75 : decode cX12_readTag 75 = .ok (.invokestatic 279, 3) := by decide +kernel
theorem dX12_readTag_78 : decode cX12_readTag 78 = .ok (.ifCond .ne 13, 3) := by decide +kernel
theorem dX12_readTag_81 : decode cX12_readTag 81 = .ok (.aload_n 0, 1) := by decide +kernel
theorem dX12_readTag_82 : decode cX12_readTag 82 = .ok (.invokevirtual 276, 3) := by decide +kernel
theorem dX12_readTag_85 : decode cX12_readTag 85 = .ok (.invokestatic 282, 3) := by decide +kernel
theorem dX12_readTag_88 : decode cX12_readTag 88 = .ok (.ifCond .eq 52, 3) := by decide +kernel
theorem dX12_readTag_91 : decode cX12_readTag 91 = .ok (.iload 5, 2) := by decide +kernel
theorem dX12_readTag_93 : decode cX12_readTag 93 = .ok (.bipush 12, 2) := by decide +kernel
theorem dX12_readTag_95 : decode cX12_readTag 95 = .ok (.if_icmp .ge 29, 3) := by decide +kernel
theorem dX12_readTag_98 : decode cX12_readTag 98 = .ok (.iload 4, 2) := by decide +kernel
theorem dX12_readTag_100 : decode cX12_readTag 100 = .ok (.ifCond .ne 24, 3) := by decide +kernel
theorem dX12_readTag_103 : decode cX12_readTag 103 = .ok (.aload_n 0, 1) := by decide +kernel
theorem dX12_readTag_104 : decode cX12_readTag 104 = .ok (.getfield 58, 3) := by decide +kernel
theorem dX12_readTag_107 : decode cX12_readTag 107 = .ok (.bipush 96, 2) := by decide +kernel
theorem dX12_readTag_109 : decode cX12_readTag 109 = .ok (.iload_n 1, 1) := by decide +kernel
theorem dX12_readTag_110 : decode cX12_readTag 110 = .ok (.imul, 1) := by decide +kernel
theorem dX12_readTag_111 : decode cX12_readTag 111 = .ok (.bipush 12, 2) := by decide +kernel
theorem dX12_readTag_113 : decode cX12_readTag 113 = .ok (.iload_n 3, 1) := by decide +kernel
theorem dX12_readTag_114 : decode cX12_readTag 114 = .ok (.imul, 1) := by decide +kernel
theorem dX12_readTag_115 : decode cX12_readTag 115 = .ok (.iadd, 1) := by decide +kernel
theorem dX12_readTag_116 : decode cX12_readTag 116 = .ok (.iload 5, 2) := by decide +kernel
theorem dX12_readTag_118 : decode cX12_readTag 118 = .ok (.iadd, 1) := by decide +kernel
theorem dX12_readTag_119 : decode cX12_readTag 119 = .ok (.aload_n 0, 1) := by decide +kernel
theorem dX12_readTag_120 : decode cX12_readTag 120 = .ok (.invokevirtual 276, 3) := by decide +kernel
theorem dX12_readTag_123 : decode cX12_readTag 123 = .ok (.castore, 1) := by decide +kernel
theorem dX12_readTag_124 : decode cX12_readTag 124 = .ok (.iinc 5 1, 3) := by decide +kernel
theorem dX12_readTag_127 : decode cX12_readTag 127 = .ok (.aload_n 0, 1) := by decide +kernel
theorem dX12_readTag_128 : decode cX12_readTag 128 = .ok (.dup, 1) := by decide +kernel
theorem dX12_readTag_129 : decode cX12_readTag 129 = .ok (.getfield 267, 3) := by decide +kernel
theorem dX12_readTag_132 : decode cX12_readTag 132 = .ok (.iconst 1, 1) := by decide +kernel
theorem dX12_readTag_133 : decode cX12_readTag 133 = .ok (.iadd, 1) := by decide +kernel
theorem dX12_readTag_134 : decode cX12_readTag 134 = .ok (.putfield 267, 3) := by decide +kernel
theorem dX12_readTag_137 : decode cX12_readTag 137 = .ok (.goto (-66), 3) := by decide +kernel
theorem dX12_readTag_140 : decode cX12_readTag 140 = .ok (.aload_n 0, 1) := by decide +kernel
theorem dX12_readTag_141 : decode cX12_readTag 141 = .ok (.invokevirtual 273, 3) := by decide +kernel
theorem dX12_readTag_144 : decode cX12_readTag 144 = .ok (.aload_n 0, 1) := by decide +kernel
theorem dX12_readTag_145 : decode cX12_readTag 145 = .ok (.invokevirtual 276, 3) := by decide +kernel
theorem dX12_readTag_148 : decode cX12_readTag 148 = .ok (.bipush 34, 2) := by decide +kernel
theorem dX12_readTag_150 : decode cX12_readTag 150 = .ok (.if_icmp .eq 12, 3) := by decide +kernel
theorem dX12_readTag_153 : decode cX12_readTag 153 = .ok (.iconst 1, 1) := by decide +kernel
theorem dX12_readTag_154 : decode cX12_readTag 154 = .ok (.aload_n 0, 1) := by decide +kernel
theorem dX12_readTag_155 : decode cX12_readTag 155 = .ok (.getfield 267, 3) := by decide +kernel
theorem dX12_readTag_158 : decode cX12_readTag 158 = .ok (.invokestatic 285, 3) := by decide +kernel
theorem dX12_readTag_161 : decode cX12_readTag 161 = .ok (.ireturn, 1) := by decide +kernel
theorem dX12_readTag_162 : decode cX12_readTag 162 = .ok (.aload_n 0, 1) := by decide +kernel
theorem dX12_readTag_163 : decode cX12_readTag 163 = .ok (.dup, 1) := by decide +kernel
theorem dX12_readTag_164 : decode cX12_readTag 164 = .ok (.getfield 267, 3) := by decide +kernel
theorem dX12_readTag_167 : decode cX12_readTag 167 = .ok (.iconst 1, 1) := by decide +kernel
theorem dX12_readTag_168 : decode cX12_readTag 168 = .ok (.iadd, 1) := by decide +kernel
theorem dX12_readTag_169 : decode cX12_readTag 169 = .ok (.putfield 267, 3) := by decide +kernel
theorem dX12_readTag_172 : decode cX12_readTag 172 = .ok (.iconst 0, 1) := by decide +kernel
theorem dX12_readTag_173 : decode cX12_readTag 173 = .ok (.istore 6, 2) := by decide +kernel
theorem dX12_readTag_175 : decode cX12_readTag 175 = .ok (.aload_n 0, 1) := by decide +kernel
theorem dX12_readTag_176 : decode cX12_readTag 176 = .ok (.invokevirtual 276, 3) := by decide +kernel
theorem dX12_readTag_179 : decode cX12_readTag 179 = .ok (.bipush 34, 2) := by decide +kernel
theorem dX12_readTag_181 : decode cX12_readTag 181 = .ok (.if_icmp .eq 128, 3) := by decide +kernel
theorem dX12_readTag_184 : decode cX12_readTag 184 = .ok (.aload_n 0, 1) := by decide +kernel
theorem dX12_readTag_185 : decode cX12_readTag 185 = .ok (.invokevirtual 276, 3) := by decide +kernel
theorem dX12_readTag_188 : decode cX12_readTag 188 = .ok (.bipush 92, 2) := by decide +kernel
theorem dX12_readTag_190 : decode cX12_readTag 190 = .ok (.if_icmp .ne 40, 3) := by decide +kernel
theorem dX12_readTag_193 : decode cX12_readTag 193 = .ok (.aload_n 0, 1) := by decide +kernel
theorem dX12_readTag_194 : decode cX12_readTag 194 = .ok (.dup, 1) := by decide +kernel
theorem dX12_readTag_195 : decode cX12_readTag 195 = .ok (.getfield 267, 3) := by decide +kernel
theorem dX12_readTag_198 : decode cX12_readTag 198 = .ok (.iconst 1, 1) := by decide +kernel
theorem dX12_readTag_199 : decode cX12_readTag 199 = .ok (.iadd, 1) := by decide +kernel
theorem dX12_readTag_200 : decode cX12_readTag 200 = .ok (.putfield 267, 3) := by decide +kernel
theorem dX12_readTag_203 : decode cX12_readTag 203 = .ok (.aload_n 0, 1) := by decide +kernel
theorem dX12_readTag_204 : decode cX12_readTag 204 = .ok (.invokevirtual 276, 3) := by decide +kernel
theorem dX12_readTag_207 : decode cX12_readTag 207 = .ok (.bipush 34, 2) := by decide +kernel
theorem dX12_readTag_209 : decode cX12_readTag 209 = .ok (.if_icmp .eq 21, 3) := by decide +kernel
theorem dX12_readTag_212 : decode cX12_readTag 212 = .ok (.aload_n 0, 1) := by decide +kernel
theorem dX12_readTag_213 : decode cX12_readTag 213 = .ok (.invokevirtual 276, 3) := by decide +kernel
theorem dX12_readTag_216 : decode cX12_readTag 216 = .ok (.bipush 92, 2) := by decide +kernel
theorem dX12_readTag_218 : decode cX12_readTag 218 = .ok (.if_icmp .eq 12, 3) := by decide +kernel
theorem dX12_readTag_221 : decode cX12_readTag 221 = .ok (.iconst 1, 1) := by decide +kernel
theorem dX12_readTag_222 : decode cX12_readTag 222 = .ok (.aload_n 0, 1) := by decide +kernel
theorem dX12_readTag_223 : decode cX12_readTag 223 = .ok (.getfield 267, 3) := by decide +kernel
theorem dX12_readTag_226 : decode cX12_readTag 226 = .ok (.invokestatic 285, 3) := by decide +kernel
theorem dX12_readTag_229 : decode cX12_readTag 229 = .ok (.ireturn, 1) := by decide +kernel
theorem dX12_readTag_230 : decode cX12_readTag 230 = .ok (.aload_n 0, 1) := by decide +kernel
theorem dX12_readTag_231 : decode cX12_readTag 231 = .ok (.getfield 267, 3) := by decide +kernel
theorem dX12_readTag_234 : decode cX12_readTag 234 = .ok (.aload_n 0, 1) := by decide +kernel
theorem dX12_readTag_235 : decode cX12_readTag 235 = .ok (.getfield 270, 3) := by decide +kernel
theorem dX12_readTag_238 : decode cX12_readTag 238 = .ok (.if_icmp .eq 12, 3) := by decide +kernel
theorem dX12_readTag_241 : decode cX12_readTag 241 = .ok (.aload_n 0, 1) := by decide +kernel
theorem dX12_readTag_242 : decode cX12_readTag 242 = .ok (.invokevirtual 276, 3) := by decide +kernel
theorem dX12_readTag_245 : decode cX12_readTag 245 = .ok (.bipush 10, 2) := by decide +kernel
theorem dX12_readTag_247 : decode cX12_readTag 247 = .ok (.if_icmp .ne 12, 3) := by decide +kernel
theorem dX12_readTag_250 : decode cX12_readTag 250 = .ok (.iconst 1, 1) := by decide +kernel
theorem dX12_readTag_251 : decode cX12_readTag 251 = .ok (.aload_n 0, 1) := by decide +kernel
theorem dX12_readTag_252 : decode cX12_readTag 252 = .ok (.getfield 267, 3) := by decide +kernel
theorem dX12_readTag_255 : decode cX12_readTag 255 = .ok (.invokestatic 285, 3) := by decide +kernel
theorem dX12_readTag_258 : decode cX12_readTag 258 = .ok (.ireturn, 1) := by decide +kernel
theorem dX12_readTag_259 : decode cX12_readTag 259 = .ok (.iload 6, 2) := by decide +kernel
theorem dX12_readTag_261 : decode cX12_readTag 261 = .ok (.bipush 96, 2) := by decide +kernel
theorem dX12_readTag_263 : decode cX12_readTag 263 = .ok (.if_icmp .ge 30, 3) := by decide +kernel
theorem dX12_readTag_266 : decode cX12_readTag 266 = .ok (.iload 4, 2) := by decide +kernel
theorem dX12_readTag_268 : decode cX12_readTag 268 = .ok (.ifCond .ne 25, 3) := by decide +kernel
theorem dX12_readTag_271 : decode cX12_readTag 271 = .ok (.aload_n 0, 1) := by decide +kernel
theorem dX12_readTag_272 : decode cX12_readTag 272 = .ok (.getfield 64, 3) := by decide +kernel
theorem dX12_readTag_275 : decode cX12_readTag 275 = .ok (.sipush 768, 3) := by decide +kernel
theorem dX12_readTag_278 : decode cX12_readTag 278 = .ok (.iload_n 1, 1) := by decide +kernel
theorem dX12_readTag_279 : decode cX12_readTag 279 = .ok (.imul, 1) := by decide +kernel
theorem dX12_readTag_280 : decode cX12_readTag 280 = .ok (.bipush 96, 2) := by decide +kernel
theorem dX12_readTag_282 : decode cX12_readTag 282 = .ok (.iload_n 3, 1) := by decide +kernel
theorem dX12_readTag_283 : decode cX12_readTag 283 = .ok (.imul, 1) := by decide +kernel
theorem dX12_readTag_284 : decode cX12_readTag 284 = .ok (.iadd, 1) := by decide +kernel
theorem dX12_readTag_285 : decode cX12_readTag 285 = .ok (.iload 6, 2) := by decide +kernel
theorem dX12_readTag_287 : decode cX12_readTag 287 = .ok (.iadd, 1) := by decide +kernel
theorem dX12_readTag_288 : decode cX12_readTag 288 = .ok (.aload_n 0, 1) := by decide +kernel
theorem dX12_readTag_289 : decode cX12_readTag 289 = .ok (.invokevirtual 276, 3) := by decide +kernel
theorem dX12_readTag_292 : decode cX12_readTag 292 = .ok (.castore, 1) := by decide +kernel
theorem dX12_readTag_293 : decode cX12_readTag 293 = .ok (.iinc 6 1, 3) := by decide +kernel
theorem dX12_readTag_296 : decode cX12_readTag 296 = .ok (.aload_n 0, 1) := by decide +kernel
theorem dX12_readTag_297 : decode cX12_readTag 297 = .ok (.dup, 1) := by decide +kernel
theorem dX12_readTag_298 : decode cX12_readTag 298 = .ok (.getfield 267, 3) := by decide +kernel
theorem dX12_readTag_301 : decode cX12_readTag 301 = .ok (.iconst 1, 1) := by decide +kernel
theorem dX12_readTag_302 : decode cX12_readTag 302 = .ok (.iadd, 1) := by decide +kernel
theorem dX12_readTag_303 : decode cX12_readTag 303 = .ok (.putfield 267, 3) := by decide +kernel
theorem dX12_readTag_306 : decode cX12_readTag 306 = .ok (.goto (-131), 3) := by decide +kernel
theorem dX12_readTag_309 : decode cX12_readTag 309 = .ok (.aload_n 0, 1) := by decide +kernel
theorem dX12_readTag_310 : decode cX12_readTag 310 = .ok (.dup, 1) := by decide +kernel
theorem dX12_readTag_311 : decode cX12_readTag 311 = .ok (.getfield 267, 3) := by decide +kernel
theorem dX12_readTag_314 : decode cX12_readTag 314 = .ok (.iconst 1, 1) := by decide +kernel
theorem dX12_readTag_315 : decode cX12_readTag 315 = .ok (.iadd, 1) := by decide +kernel
theorem dX12_readTag_316 : decode cX12_readTag 316 = .ok (.putfield 267, 3) := by decide +kernel
theorem dX12_readTag_319 : decode cX12_readTag 319 = .ok (.aload_n 0, 1) := by decide +kernel
theorem dX12_readTag_320 : decode cX12_readTag 320 = .ok (.invokevirtual 273, 3) := by decide +kernel
theorem dX12_readTag_323 : decode cX12_readTag 323 = .ok (.aload_n 0, 1) := by decide +kernel
theorem dX12_readTag_324 : decode cX12_readTag 324 = .ok (.invokevirtual 276, 3) := by decide +kernel
theorem dX12_readTag_327 : decode cX12_readTag 327 = .ok (.bipush 93, 2) := by decide +kernel
theorem dX12_readTag_329 : decode cX12_readTag 329 = .ok (.if_icmp .eq 12, 3) := by decide +kernel
theorem dX12_readTag_332 : decode cX12_readTag 332 = .ok (.iconst 1, 1) := by decide +kernel
theorem dX12_readTag_333 : decode cX12_readTag 333 = .ok (.aload_n 0, 1) := by decide +kernel
theorem dX12_readTag_334 : decode cX12_readTag 334 = .ok (.getfield 267, 3) := by decide +kernel
theorem dX12_readTag_337 : decode cX12_readTag 337 = .ok (.invokestatic 285, 3) := by decide +kernel
theorem dX12_readTag_340 : decode cX12_readTag 340 = .ok (.ireturn, 1) := by decide +kernel
theorem dX12_readTag_341 : decode cX12_readTag 341 = .ok (.aload_n 0, 1) := by decide +kernel
theorem dX12_readTag_342 : decode cX12_readTag 342 = .ok (.dup, 1) := by decide +kernel
theorem dX12_readTag_343 : decode cX12_readTag 343 = .ok (.getfield 267, 3) := by decide +kernel
theorem dX12_readTag_346 : decode cX12_readTag 346 = .ok (.iconst 1, 1) := by decide +kernel
theorem dX12_readTag_347 : decode cX12_readTag 347 = .ok (.iadd, 1) := by decide +kernel
theorem dX12_readTag_348 : decode cX12_readTag 348 = .ok (.putfield 267, 3) := by decide +kernel
theorem dX12_readTag_351 : decode cX12_readTag 351 = .ok (.iload 4, 2) := by decide +kernel
theorem dX12_readTag_353 : decode cX12_readTag 353 = .ok (.ifCond .ne 17, 3) := by decide +kernel
theorem dX12_readTag_356 : decode cX12_readTag 356 = .ok (.iload 5, 2) := by decide +kernel
theorem dX12_readTag_358 : decode cX12_readTag 358 = .ok (.bipush 12, 2) := by decide +kernel
theorem dX12_readTag_360 : decode cX12_readTag 360 = .ok (.if_icmp .gt 10, 3) := by decide +kernel
theorem dX12_readTag_363 : decode cX12_readTag 363 = .ok (.iload 6, 2) := by decide +kernel
theorem dX12_readTag_365 : decode cX12_readTag 365 = .ok (.bipush 96, 2) := by decide +kernel
theorem dX12_readTag_367 : decode cX12_readTag 367 = .ok (.if_icmp .le 9, 3) := by decide +kernel
theorem dX12_readTag_370 : decode cX12_readTag 370 = .ok (.iconst 2, 1) := by decide +kernel
theorem dX12_readTag_371 : decode cX12_readTag 371 = .ok (.iload_n 2, 1) := by decide +kernel
theorem dX12_readTag_372 : decode cX12_readTag 372 = .ok (.invokestatic 285, 3) := by decide +kernel
theorem dX12_readTag_375 : decode cX12_readTag 375 = .ok (.ireturn, 1) := by decide +kernel
theorem dX12_readTag_376 : decode cX12_readTag 376 = .ok (.aload_n 0, 1) := by decide +kernel
theorem dX12_readTag_377 : decode cX12_readTag 377 = .ok (.getfield 55, 3) := by decide +kernel
theorem dX12_readTag_380 : decode cX12_readTag 380 = .ok (.bipush 8, 2) := by decide +kernel
theorem dX12_readTag_382 : decode cX12_readTag 382 = .ok (.iload_n 1, 1) := by decide +kernel
theorem dX12_readTag_383 : decode cX12_readTag 383 = .ok (.imul, 1) := by decide +kernel
theorem dX12_readTag_384 : decode cX12_readTag 384 = .ok (.iload_n 3, 1) := by decide +kernel
theorem dX12_readTag_385 : decode cX12_readTag 385 = .ok (.iadd, 1) := by decide +kernel
theorem dX12_readTag_386 : decode cX12_readTag 386 = .ok (.iload 5, 2) := by decide +kernel
theorem dX12_readTag_388 : decode cX12_readTag 388 = .ok (.iastore, 1) := by decide +kernel
theorem dX12_readTag_389 : decode cX12_readTag 389 = .ok (.aload_n 0, 1) := by decide +kernel
theorem dX12_readTag_390 : decode cX12_readTag 390 = .ok (.getfield 61, 3) := by decide +kernel
theorem dX12_readTag_393 : decode cX12_readTag 393 = .ok (.bipush 8, 2) := by decide +kernel
theorem dX12_readTag_395 : decode cX12_readTag 395 = .ok (.iload_n 1, 1) := by decide +kernel
theorem dX12_readTag_396 : decode cX12_readTag 396 = .ok (.imul, 1) := by decide +kernel
theorem dX12_readTag_397 : decode cX12_readTag 397 = .ok (.iload_n 3, 1) := by decide +kernel
theorem dX12_readTag_398 : decode cX12_readTag 398 = .ok (.iadd, 1) := by decide +kernel
theorem dX12_readTag_399 : decode cX12_readTag 399 = .ok (.iload 6, 2) := by decide +kernel
theorem dX12_readTag_401 : decode cX12_readTag 401 = .ok (.iastore, 1) := by decide +kernel
theorem dX12_readTag_402 : decode cX12_readTag 402 = .ok (.aload_n 0, 1) := by decide +kernel
theorem dX12_readTag_403 : decode cX12_readTag 403 = .ok (.iload_n 1, 1) := by decide +kernel
theorem dX12_readTag_404 : decode cX12_readTag 404 = .ok (.iload_n 3, 1) := by decide +kernel
theorem dX12_readTag_405 : decode cX12_readTag 405 = .ok (.invokevirtual 289, 3) := by decide +kernel
theorem dX12_readTag_408 : decode cX12_readTag 408 = .ok (.ifCond .eq 9, 3) := by decide +kernel
theorem dX12_readTag_411 : decode cX12_readTag 411 = .ok (.iconst 2, 1) := by decide +kernel
theorem dX12_readTag_412 : decode cX12_readTag 412 = .ok (.iload_n 2, 1) := by decide +kernel
theorem dX12_readTag_413 : decode cX12_readTag 413 = .ok (.invokestatic 285, 3) := by decide +kernel
theorem dX12_readTag_416 : decode cX12_readTag 416 = .ok (.ireturn, 1) := by decide +kernel
theorem dX12_readTag_417 : decode cX12_readTag 417 = .ok (.aload_n 0, 1) := by decide +kernel
theorem dX12_readTag_418 : decode cX12_readTag 418 = .ok (.iload_n 3, 1) := by decide +kernel
theorem dX12_readTag_419 : decode cX12_readTag 419 = .ok (.iload_n 1, 1) := by decide +kernel
theorem dX12_readTag_420 : decode cX12_readTag 420 = .ok (.iconst 0, 1) := by decide +kernel
theorem dX12_readTag_421 : decode cX12_readTag 421 = .ok (.invokevirtual 292, 3) := by decide +kernel
theorem dX12_readTag_424 : decode cX12_readTag 424 = .ok (.ifCond .eq 33, 3) := by decide +kernel
theorem dX12_readTag_427 : decode cX12_readTag 427 = .ok (.aload_n 0, 1) := by decide +kernel
theorem dX12_readTag_428 : decode cX12_readTag 428 = .ok (.sipush 768, 3) := by decide +kernel
theorem dX12_readTag_431 : decode cX12_readTag 431 = .ok (.iload_n 1, 1) := by decide +kernel
theorem dX12_readTag_432 : decode cX12_readTag 432 = .ok (.imul, 1) := by decide +kernel
theorem dX12_readTag_433 : decode cX12_readTag 433 = .ok (.bipush 96, 2) := by decide +kernel
theorem dX12_readTag_435 : decode cX12_readTag 435 = .ok (.iload_n 3, 1) := by decide +kernel
theorem dX12_readTag_436 : decode cX12_readTag 436 = .ok (.imul, 1) := by decide +kernel
theorem dX12_readTag_437 : decode cX12_readTag 437 = .ok (.iadd, 1) := by decide +kernel
theorem dX12_readTag_438 : decode cX12_readTag 438 = .ok (.iload 6, 2) := by decide +kernel
theorem dX12_readTag_440 : decode cX12_readTag 440 = .ok (.invokevirtual 296, 3) := by decide +kernel
theorem dX12_readTag_443 : decode cX12_readTag 443 = .ok (.ifCond .ne 9, 3) := by decide +kernel
theorem dX12_readTag_446 : decode cX12_readTag 446 = .ok (.iconst 3, 1) := by decide +kernel
theorem dX12_readTag_447 : decode cX12_readTag 447 = .ok (.iload_n 2, 1) := by decide +kernel
theorem dX12_readTag_448 : decode cX12_readTag 448 = .ok (.invokestatic 285, 3) := by decide +kernel
theorem dX12_readTag_451 : decode cX12_readTag 451 = .ok (.ireturn, 1) := by decide +kernel
theorem dX12_readTag_452 : decode cX12_readTag 452 = .ok (.aload_n 0, 1) := by decide +kernel
theorem dX12_readTag_453 : decode cX12_readTag 453 = .ok (.iload_n 1, 1) := by decide +kernel
theorem dX12_readTag_454 : decode cX12_readTag 454 = .ok (.invokevirtual 182, 3) := by decide +kernel
theorem dX12_readTag_457 : decode cX12_readTag 457 = .ok (.aload_n 0, 1) := by decide +kernel
theorem dX12_readTag_458 : decode cX12_readTag 458 = .ok (.getfield 52, 3) := by decide +kernel
theorem dX12_readTag_461 : decode cX12_readTag 461 = .ok (.iload_n 1, 1) := by decide +kernel
theorem dX12_readTag_462 : decode cX12_readTag 462 = .ok (.dup2, 1) := by decide +kernel
theorem dX12_readTag_463 : decode cX12_readTag 463 = .ok (.iaload, 1) := by decide +kernel
theorem dX12_readTag_464 : decode cX12_readTag 464 = .ok (.iconst 1, 1) := by decide +kernel
theorem dX12_readTag_465 : decode cX12_readTag 465 = .ok (.iadd, 1) := by decide +kernel
theorem dX12_readTag_466 : decode cX12_readTag 466 = .ok (.iastore, 1) := by decide +kernel
theorem dX12_readTag_467 : decode cX12_readTag 467 = .ok (.iconst 0, 1) := by decide +kernel
theorem dX12_readTag_468 : decode cX12_readTag 468 = .ok (.ireturn, 1) := by decide +kernel
theorem dX12_readRemarks_0 : decode cX12_readRemarks 0 = .ok (.aload_n 0, 1) := by decide +kernel
theorem dX12_readRemarks_1 : decode cX12_readRemarks 1 = .ok (.invokevirtual 273, 3) := by decide +kernel
theorem dX12_readRemarks_4 : decode cX12_readRemarks 4 = .ok (.aload_n 0, 1) := by decide +kernel
theorem dX12_readRemarks_5 : decode cX12_readRemarks 5 = .ok (.invokevirtual 276, 3) := by decide +kernel
theorem dX12_readRemarks_8 : decode cX12_readRemarks 8 = .ok (.bipush 123, 2) := by decide +kernel
theorem dX12_readRemarks_10 : decode cX12_readRemarks 10 = .ok (.if_icmp .eq 12, 3) := by decide +kernel
theorem dX12_readRemarks_13 : decode cX12_readRemarks 13 = .ok (.aload_n 0, 1) := by decide +kernel
theorem dX12_readRemarks_14 : decode cX12_readRemarks 14 = .ok (.invokevirtual 276, 3) := by decide +kernel
theorem dX12_readRemarks_17 : decode cX12_readRemarks 17 = .ok (.bipush 59, 2) := by decide +kernel
theorem dX12_readRemarks_19 : decode cX12_readRemarks 19 = .ok (.if_icmp .ne 335, 3) := by decide +kernel
theorem dX12_readRemarks_22 : decode cX12_readRemarks 22 = .ok (.aload_n 0, 1) := by decide +kernel
theorem dX12_readRemarks_23 : decode cX12_readRemarks 23 = .ok (.getfield 267, 3) := by decide +kernel
theorem dX12_readRemarks_26 : decode cX12_readRemarks 26 = .ok (.istore_n 3, 1) := by decide +kernel
theorem dX12_readRemarks_27 : decode cX12_readRemarks 27 = .ok (.aload_n 0, 1) := by decide +kernel
theorem dX12_readRemarks_28 : decode cX12_readRemarks 28 = .ok (.invokevirtual 276, 3) := by decide +kernel
theorem dX12_readRemarks_31 : decode cX12_readRemarks 31 = .ok (.bipush 123, 2) := by decide +kernel
theorem dX12_readRemarks_33 : decode cX12_readRemarks 33 = .ok (.if_icmp .ne 7, 3) := by decide +kernel
theorem dX12_readRemarks_36 : decode cX12_readRemarks 36 = .ok (.iconst 1, 1) := by decide +kernel
theorem dX12_readRemarks_37 : decode cX12_readRemarks 37 = .ok (.goto 4, 3) := by decide +kernel
theorem dX12_readRemarks_40 : decode cX12_readRemarks 40 = .ok (.iconst 0, 1) := by decide +kernel
theorem dX12_readRemarks_41 : decode cX12_readRemarks 41 = .ok (.istore 4, 2) := by decide +kernel
theorem dX12_readRemarks_43 : decode cX12_readRemarks 43 = .ok (.aload_n 0, 1) := by decide +kernel
theorem dX12_readRemarks_44 : decode cX12_readRemarks 44 = .ok (.dup, 1) := by decide +kernel
theorem dX12_readRemarks_45 : decode cX12_readRemarks 45 = .ok (.getfield 267, 3) := by decide +kernel
theorem dX12_readRemarks_48 : decode cX12_readRemarks 48 = .ok (.iconst 1, 1) := by decide +kernel
theorem dX12_readRemarks_49 : decode cX12_readRemarks 49 = .ok (.iadd, 1) := by decide +kernel
theorem dX12_readRemarks_50 : decode cX12_readRemarks 50 = .ok (.putfield 267, 3) := by decide +kernel
theorem dX12_readRemarks_53 : decode cX12_readRemarks 53 = .ok (.aload_n 0, 1) := by decide +kernel
theorem dX12_readRemarks_54 : decode cX12_readRemarks 54 = .ok (.getfield 267, 3) := by decide +kernel
theorem dX12_readRemarks_57 : decode cX12_readRemarks 57 = .ok (.istore 5, 2) := by decide +kernel
theorem dX12_readRemarks_59 : decode cX12_readRemarks 59 = .ok (.aload_n 0, 1) := by decide +kernel
theorem dX12_readRemarks_60 : decode cX12_readRemarks 60 = .ok (.getfield 267, 3) := by decide +kernel
theorem dX12_readRemarks_63 : decode cX12_readRemarks 63 = .ok (.aload_n 0, 1) := by decide +kernel
theorem dX12_readRemarks_64 : decode cX12_readRemarks 64 = .ok (.getfield 270, 3) := by decide +kernel
theorem dX12_readRemarks_67 : decode cX12_readRemarks 67 = .ok (.if_icmp .ge 65, 3) := by decide +kernel
theorem dX12_readRemarks_70 : decode cX12_readRemarks 70 = .ok (.iload 4, 2) := by decide +kernel
theorem dX12_readRemarks_72 : decode cX12_readRemarks 72 = .ok (.ifCond .eq 15, 3) := by decide +kernel
theorem dX12_readRemarks_75 : decode cX12_readRemarks 75 = .ok (.aload_n 0, 1) := by decide +kernel
theorem dX12_readRemarks_76 : decode cX12_readRemarks 76 = .ok (.invokevirtual 276, 3) := by decide +kernel
theorem dX12_readRemarks_79 : decode cX12_readRemarks 79 = .ok (.bipush 125, 2) := by decide +kernel
theorem dX12_readRemarks_81 : decode cX12_readRemarks 81 = .ok (.if_icmp .eq 51, 3) := by decide +kernel
theorem dX12_readRemarks_84 : decode cX12_readRemarks 84 = .ok (.goto 12, 3) := by decide +kernel
theorem dX12_readRemarks_87 : decode cX12_readRemarks 87 = .ok (.aload_n 0, 1) := by decide +kernel
theorem dX12_readRemarks_88 : decode cX12_readRemarks 88 = .ok (.invokevirtual 276, 3) := by decide +kernel
theorem dX12_readRemarks_91 : decode cX12_readRemarks 91 = .ok (.bipush 10, 2) := by decide +kernel
theorem dX12_readRemarks_93 : decode cX12_readRemarks 93 = .ok (.if_icmp .eq 39, 3) := by decide +kernel
theorem dX12_readRemarks_96 : decode cX12_readRemarks 96 = .ok (.iload 4, 2) := by decide +kernel
theorem dX12_readRemarks_98 : decode cX12_readRemarks 98 = .ok (.ifCond .ne 21, 3) := by decide +kernel
theorem dX12_readRemarks_101 : decode cX12_readRemarks 101 = .ok (.aload_n 0, 1) := by decide +kernel
theorem dX12_readRemarks_102 : decode cX12_readRemarks 102 = .ok (.invokevirtual 276, 3) := by decide +kernel
theorem dX12_readRemarks_105 : decode cX12_readRemarks 105 = .ok (.bipush 125, 2) := by decide +kernel
theorem dX12_readRemarks_107 : decode cX12_readRemarks 107 = .ok (.if_icmp .ne 12, 3) := by decide +kernel
theorem dX12_readRemarks_110 : decode cX12_readRemarks 110 = .ok (.iconst 1, 1) := by decide +kernel
theorem dX12_readRemarks_111 : decode cX12_readRemarks 111 = .ok (.aload_n 0, 1) := by decide +kernel
theorem dX12_readRemarks_112 : decode cX12_readRemarks 112 = .ok (.getfield 267, 3) := by decide +kernel
theorem dX12_readRemarks_115 : decode cX12_readRemarks 115 = .ok (.invokestatic 285, 3) := by decide +kernel
theorem dX12_readRemarks_118 : decode cX12_readRemarks 118 = .ok (.ireturn, 1) := by decide +kernel
theorem dX12_readRemarks_119 : decode cX12_readRemarks 119 = .ok (.aload_n 0, 1) := by decide +kernel
theorem dX12_readRemarks_120 : decode cX12_readRemarks 120 = .ok (.dup, 1) := by decide +kernel
theorem dX12_readRemarks_121 : decode cX12_readRemarks 121 = .ok (.getfield 267, 3) := by decide +kernel
theorem dX12_readRemarks_124 : decode cX12_readRemarks 124 = .ok (.iconst 1, 1) := by decide +kernel
theorem dX12_readRemarks_125 : decode cX12_readRemarks 125 = .ok (.iadd, 1) := by decide +kernel
theorem dX12_readRemarks_126 : decode cX12_readRemarks 126 = .ok (.putfield 267, 3) := by decide +kernel
theorem dX12_readRemarks_129 : decode cX12_readRemarks 129 = .ok (.goto (-70), 3) := by decide +kernel
theorem dX12_readRemarks_132 : decode cX12_readRemarks 132 = .ok (.iload 4, 2) := by decide +kernel
theorem dX12_readRemarks_134 : decode cX12_readRemarks 134 = .ok (.ifCond .eq 23, 3) := by decide +kernel
theorem dX12_readRemarks_137 : decode cX12_readRemarks 137 = .ok (.aload_n 0, 1) := by decide +kernel
theorem dX12_readRemarks_138 : decode cX12_readRemarks 138 = .ok (.getfield 267, 3) := by decide +kernel
theorem dX12_readRemarks_141 : decode cX12_readRemarks 141 = .ok (.aload_n 0, 1) := by decide +kernel
theorem dX12_readRemarks_142 : decode cX12_readRemarks 142 = .ok (.getfield 270, 3) := by decide +kernel
theorem dX12_readRemarks_145 : decode cX12_readRemarks 145 = .ok (.if_icmp .ne 12, 3) := by decide +kernel
theorem dX12_readRemarks_148 : decode cX12_readRemarks 148 = .ok (.iconst 1, 1) := by decide +kernel
theorem dX12_readRemarks_149 : decode cX12_readRemarks 149 = .ok (.aload_n 0, 1) := by decide +kernel
theorem dX12_readRemarks_150 : decode cX12_readRemarks 150 = .ok (.getfield 267, 3) := by decide +kernel
theorem dX12_readRemarks_153 : decode cX12_readRemarks 153 = .ok (.invokestatic 285, 3) := by decide +kernel
theorem dX12_readRemarks_156 : decode cX12_readRemarks 156 = .ok (.ireturn, 1) := by decide +kernel
theorem dX12_readRemarks_157 : decode cX12_readRemarks 157 = .ok (.aload_n 0, 1) := by decide +kernel
theorem dX12_readRemarks_158 : decode cX12_readRemarks 158 = .ok (.getfield 267, 3) := by decide +kernel
theorem dX12_readRemarks_161 : decode cX12_readRemarks 161 = .ok (.iload 5, 2) := by decide +kernel
theorem dX12_readRemarks_163 : decode cX12_readRemarks 163 = .ok (.isub, 1) := by decide +kernel
theorem dX12_readRemarks_164 : decode cX12_readRemarks 164 = .ok (.istore 6, 2) := by decide +kernel
theorem dX12_readRemarks_166 : decode cX12_readRemarks 166 = .ok (.sipush 301, 3) := by decide +kernel
theorem dX12_readRemarks_169 : decode cX12_readRemarks 169 = .ok (.iload_n 1, 1) := by decide +kernel
theorem dX12_readRemarks_170 : decode cX12_readRemarks 170 = .ok (.imul, 1) := by decide +kernel
theorem dX12_readRemarks_171 : decode cX12_readRemarks 171 = .ok (.iload_n 2, 1) := by decide +kernel
theorem dX12_readRemarks_172 : decode cX12_readRemarks 172 = .ok (.iadd, 1) := by decide +kernel
theorem dX12_readRemarks_173 : decode cX12_readRemarks 173 = .ok (.istore 7, 2) := by decide +kernel
theorem dX12_readRemarks_175 : decode cX12_readRemarks 175 = .ok (.aload_n 0, 1) := by decide +kernel
theorem dX12_readRemarks_176 : decode cX12_readRemarks 176 = .ok (.getfield 39, 3) := by decide +kernel
theorem dX12_readRemarks_179 : decode cX12_readRemarks 179 = .ok (.iload 7, 2) := by decide +kernel
theorem dX12_readRemarks_181 : decode cX12_readRemarks 181 = .ok (.iaload, 1) := by decide +kernel
theorem dX12_readRemarks_182 : decode cX12_readRemarks 182 = .ok (.istore 8, 2) := by decide +kernel
theorem dX12_readRemarks_184 : decode cX12_readRemarks 184 = .ok (.iload 6, 2) := by decide +kernel
theorem dX12_readRemarks_186 : decode cX12_readRemarks 186 = .ok (.ifCond .le 12, 3) := by decide +kernel
theorem dX12_readRemarks_189 : decode cX12_readRemarks 189 = .ok (.iload 8, 2) := by decide +kernel
theorem dX12_readRemarks_191 : decode cX12_readRemarks 191 = .ok (.ifCond .le 7, 3) := by decide +kernel
theorem dX12_readRemarks_194 : decode cX12_readRemarks 194 = .ok (.iconst 1, 1) := by decide +kernel
theorem dX12_readRemarks_195 : decode cX12_readRemarks 195 = .ok (.goto 4, 3) := by decide +kernel
theorem dX12_readRemarks_198 : decode cX12_readRemarks 198 = .ok (.iconst 0, 1) := by decide +kernel
theorem dX12_readRemarks_199 : decode cX12_readRemarks 199 = .ok (.istore 9, 2) := by decide +kernel
theorem dX12_readRemarks_201 : decode cX12_readRemarks 201 = .ok (.iload 8, 2) := by decide +kernel
theorem dX12_readRemarks_203 : decode cX12_readRemarks 203 = .ok (.iload 9, 2) := by decide +kernel
theorem dX12_readRemarks_205 : decode cX12_readRemarks 205 = .ok (.iadd, 1) := by decide +kernel
theorem dX12_readRemarks_206 : decode cX12_readRemarks 206 = .ok (.iload 6, 2) := by decide +kernel
theorem dX12_readRemarks_208 : decode cX12_readRemarks 208 = .ok (.iadd, 1) := by decide +kernel
theorem dX12_readRemarks_209 : decode cX12_readRemarks 209 = .ok (.sipush 200, 3) := by decide +kernel
theorem dX12_readRemarks_212 : decode cX12_readRemarks 212 = .ok (.if_icmp .le 10, 3) := by decide +kernel
theorem dX12_readRemarks_215 : decode cX12_readRemarks 215 = .ok (.bipush 8, 2) := by decide +kernel
theorem dX12_readRemarks_217 : decode cX12_readRemarks 217 = .ok (.iload_n 3, 1) := by decide +kernel
theorem dX12_readRemarks_218 : decode cX12_readRemarks 218 = .ok (.invokestatic 285, 3) := by decide +kernel
theorem dX12_readRemarks_221 : decode cX12_readRemarks 221 = .ok (.ireturn, 1) := by decide +kernel
theorem dX12_readRemarks_222 : decode cX12_readRemarks 222 = .ok (.iload 9, 2) := by decide +kernel
theorem dX12_readRemarks_224 : decode cX12_readRemarks 224 = .ok (.iconst 1, 1) := by decide +kernel
theorem dX12_readRemarks_225 : decode cX12_readRemarks 225 = .ok (.if_icmp .ne 19, 3) := by decide +kernel
theorem dX12_readRemarks_228 : decode cX12_readRemarks 228 = .ok (.aload_n 0, 1) := by decide +kernel
theorem dX12_readRemarks_229 : decode cX12_readRemarks 229 = .ok (.getfield 43, 3) := by decide +kernel
theorem dX12_readRemarks_232 : decode cX12_readRemarks 232 = .ok (.sipush 200, 3) := by decide +kernel
theorem dX12_readRemarks_235 : decode cX12_readRemarks 235 = .ok (.iload 7, 2) := by decide +kernel
theorem dX12_readRemarks_237 : decode cX12_readRemarks 237 = .ok (.imul, 1) := by decide +kernel
theorem dX12_readRemarks_238 : decode cX12_readRemarks 238 = .ok (.iload 8, 2) := by decide +kernel
theorem dX12_readRemarks_240 : decode cX12_readRemarks 240 = .ok (.iadd, 1) := by decide +kernel
theorem dX12_readRemarks_241 : decode cX12_readRemarks 241 = .ok (.bipush 32, 2) := by decide +kernel
theorem dX12_readRemarks_243 : decode cX12_readRemarks 243 = .ok (.castore, 1) := by decide +kernel
theorem dX12_readRemarks_244 : decode cX12_readRemarks 244 = .ok (.iconst 0, 1) := by decide +kernel
theorem dX12_readRemarks_245 : decode cX12_readRemarks 245 = .ok (.istore 10, 2) := by decide +kernel
theorem dX12_readRemarks_247 : decode cX12_readRemarks 247 = .ok (.iload 10, 2) := by decide +kernel
theorem dX12_readRemarks_249 : decode cX12_readRemarks 249 = .ok (.iload 6, 2) := by decide +kernel
theorem dX12_readRemarks_251 : decode cX12_readRemarks 251 = .ok (.if_icmp .ge 59, 3) := by decide +kernel
theorem dX12_readRemarks_254 : decode cX12_readRemarks 254 = .ok (.aload_n 0, 1) := by decide +kernel
theorem dX12_readRemarks_255 : decode cX12_readRemarks 255 = .ok (.getfield 43, 3) := by decide +kernel
theorem dX12_readRemarks_258 : decode cX12_readRemarks 258 = .ok (.sipush 200, 3) := by decide +kernel
theorem dX12_readRemarks_261 : decode cX12_readRemarks 261 = .ok (.iload 7, 2) := by decide +kernel
theorem dX12_readRemarks_263 : decode cX12_readRemarks 263 = .ok (.imul, 1) := by decide +kernel
theorem dX12_readRemarks_264 : decode cX12_readRemarks 264 = .ok (.iload 8, 2) := by decide +kernel
theorem dX12_readRemarks_266 : decode cX12_readRemarks 266 = .ok (.iadd, 1) := by decide +kernel
theorem dX12_readRemarks_267 : decode cX12_readRemarks 267 = .ok (.iload 9, 2) := by decide +kernel
theorem dX12_readRemarks_269 : decode cX12_readRemarks 269 = .ok (.iadd, 1) := by decide +kernel
theorem dX12_readRemarks_270 : decode cX12_readRemarks 270 = .ok (.iload 10, 2) := by decide +kernel
theorem dX12_readRemarks_272 : decode cX12_readRemarks 272 = .ok (.iadd, 1) := by decide +kernel
theorem dX12_readRemarks_273 : decode cX12_readRemarks 273 = .ok (.aload_n 0, 1) := by decide +kernel
theorem dX12_readRemarks_274 : decode cX12_readRemarks 274 = .ok (.getfield 7, 3) := by decide +kernel
theorem dX12_readRemarks_277 : decode cX12_readRemarks 277 = .ok (.iload 5, 2) := by decide +kernel
theorem dX12_readRemarks_279 : decode cX12_readRemarks 279 = .ok (.iload 10, 2) := by decide +kernel
theorem dX12_readRemarks_281 : decode cX12_readRemarks 281 = .ok (.iadd, 1) := by decide +kernel
theorem dX12_readRemarks_282 : decode cX12_readRemarks 282 = .ok (.caload, 1) := by decide +kernel
theorem dX12_readRemarks_283 : decode cX12_readRemarks 283 = .ok (.bipush 10, 2) := by decide +kernel
theorem dX12_readRemarks_285 : decode cX12_readRemarks 285 = .ok (.if_icmp .ne 8, 3) := by decide +kernel
theorem dX12_readRemarks_288 : decode cX12_readRemarks 288 = .ok (.bipush 32, 2) := by decide +kernel
theorem dX12_readRemarks_290 : decode cX12_readRemarks 290 = .ok (.goto 13, 3) := by decide +kernel
theorem dX12_readRemarks_293 : decode cX12_readRemarks 293 = .ok (.aload_n 0, 1) := by decide +kernel
theorem dX12_readRemarks_294 : decode cX12_readRemarks 294 = .ok (.getfield 7, 3) := by decide +kernel
theorem dX12_readRemarks_297 : decode cX12_readRemarks 297 = .ok (.iload 5, 2) := by decide +kernel
theorem dX12_readRemarks_299 : decode cX12_readRemarks 299 = .ok (.iload 10, 2) := by decide +kernel
theorem dX12_readRemarks_301 : decode cX12_readRemarks 301 = .ok (.iadd, 1) := by decide +kernel
theorem dX12_readRemarks_302 : decode cX12_readRemarks 302 = .ok (.caload, 1) := by decide +kernel
theorem dX12_readRemarks_303 : decode cX12_readRemarks 303 = .ok (.castore, 1) := by decide +kernel
theorem dX12_readRemarks_304 : decode cX12_readRemarks 304 = .ok (.iinc 10 1, 3) := by decide +kernel
theorem dX12_readRemarks_307 : decode cX12_readRemarks 307 = .ok (.goto (-60), 3) := by decide +kernel
theorem dX12_readRemarks_310 : decode cX12_readRemarks 310 = .ok (.aload_n 0, 1) := by decide +kernel
theorem dX12_readRemarks_311 : decode cX12_readRemarks 311 = .ok (.getfield 39, 3) := by decide +kernel
theorem dX12_readRemarks_314 : decode cX12_readRemarks 314 = .ok (.iload 7, 2) := by decide +kernel
theorem dX12_readRemarks_316 : decode cX12_readRemarks 316 = .ok (.iload 8, 2) := by decide +kernel
theorem dX12_readRemarks_318 : decode cX12_readRemarks 318 = .ok (.iload 9, 2) := by decide +kernel
theorem dX12_readRemarks_320 : decode cX12_readRemarks 320 = .ok (.iadd, 1) := by decide +kernel
theorem dX12_readRemarks_321 : decode cX12_readRemarks 321 = .ok (.iload 6, 2) := by decide +kernel
theorem dX12_readRemarks_323 : decode cX12_readRemarks 323 = .ok (.iadd, 1) := by decide +kernel
theorem dX12_readRemarks_324 : decode cX12_readRemarks 324 = .ok (.iastore, 1) := by decide +kernel
theorem dX12_readRemarks_325 : decode cX12_readRemarks 325 = .ok (.aload_n 0, 1) := by decide +kernel
theorem dX12_readRemarks_326 : decode cX12_readRemarks 326 = .ok (.iload 4, 2) := by decide +kernel
theorem dX12_readRemarks_328 : decode cX12_readRemarks 328 = .ok (.ifCond .eq 12, 3) := by decide +kernel
theorem dX12_readRemarks_331 : decode cX12_readRemarks 331 = .ok (.aload_n 0, 1) := by decide +kernel
theorem dX12_readRemarks_332 : decode cX12_readRemarks 332 = .ok (.getfield 267, 3) := by decide +kernel
theorem dX12_readRemarks_335 : decode cX12_readRemarks 335 = .ok (.iconst 1, 1) := by decide +kernel
theorem dX12_readRemarks_336 : decode cX12_readRemarks 336 = .ok (.iadd, 1) := by decide +kernel
theorem dX12_readRemarks_337 : decode cX12_readRemarks 337 = .ok (.goto 7, 3) := by decide +kernel
theorem dX12_readRemarks_340 : decode cX12_readRemarks 340 = .ok (.aload_n 0, 1) := by decide +kernel
theorem dX12_readRemarks_341 : decode cX12_readRemarks 341 = .ok (.getfield 267, 3) := by decide +kernel
theorem dX12_readRemarks_344 : decode cX12_readRemarks 344 = .ok (.putfield 267, 3) := by decide +kernel
theorem dX12_readRemarks_347 : decode cX12_readRemarks 347 = .ok (.aload_n 0, 1) := by decide +kernel
theorem dX12_readRemarks_348 : decode cX12_readRemarks 348 = .ok (.invokevirtual 273, 3) := by decide +kernel
theorem dX12_readRemarks_351 : decode cX12_readRemarks 351 = .ok (.goto (-347), 3) := by decide +kernel
theorem dX12_readRemarks_354 : decode cX12_readRemarks 354 = .ok (.iconst 0, 1) := by decide +kernel
theorem dX12_readRemarks_355 : decode cX12_readRemarks 355 = .ok (.ireturn, 1) := by decide +kernel
theorem dX12_goesOnWith_0 : decode cX12_goesOnWith 0 = .ok (.aload_n 0, 1) := by decide +kernel
theorem dX12_goesOnWith_1 : decode cX12_goesOnWith 1 = .ok (.getfield 267, 3) := by decide +kernel
theorem dX12_goesOnWith_4 : decode cX12_goesOnWith 4 = .ok (.iconst 2, 1) := by decide +kernel
theorem dX12_goesOnWith_5 : decode cX12_goesOnWith 5 = .ok (.iadd, 1) := by decide +kernel
theorem dX12_goesOnWith_6 : decode cX12_goesOnWith 6 = .ok (.aload_n 0, 1) := by decide +kernel
theorem dX12_goesOnWith_7 : decode cX12_goesOnWith 7 = .ok (.getfield 270, 3) := by decide +kernel
theorem dX12_goesOnWith_10 : decode cX12_goesOnWith 10 = .ok (.if_icmp .ge 50, 3) := by decide +kernel
theorem dX12_goesOnWith_13 : decode cX12_goesOnWith 13 = .ok (.aload_n 0, 1) := by decide +kernel
theorem dX12_goesOnWith_14 : decode cX12_goesOnWith 14 = .ok (.getfield 7, 3) := by decide +kernel
theorem dX12_goesOnWith_17 : decode cX12_goesOnWith 17 = .ok (.aload_n 0, 1) := by decide +kernel
theorem dX12_goesOnWith_18 : decode cX12_goesOnWith 18 = .ok (.getfield 267, 3) := by decide +kernel
theorem dX12_goesOnWith_21 : decode cX12_goesOnWith 21 = .ok (.caload, 1) := by decide +kernel
theorem dX12_goesOnWith_22 : decode cX12_goesOnWith 22 = .ok (.iload_n 1, 1) := by decide +kernel
theorem dX12_goesOnWith_23 : decode cX12_goesOnWith 23 = .ok (.if_icmp .ne 37, 3) := by decide +kernel
theorem dX12_goesOnWith_26 : decode cX12_goesOnWith 26 = .ok (.aload_n 0, 1) := by decide +kernel
theorem dX12_goesOnWith_27 : decode cX12_goesOnWith 27 = .ok (.getfield 7, 3) := by decide +kernel
theorem dX12_goesOnWith_30 : decode cX12_goesOnWith 30 = .ok (.aload_n 0, 1) := by decide +kernel
theorem dX12_goesOnWith_31 : decode cX12_goesOnWith 31 = .ok (.getfield 267, 3) := by decide +kernel
theorem dX12_goesOnWith_34 : decode cX12_goesOnWith 34 = .ok (.iconst 1, 1) := by decide +kernel
theorem dX12_goesOnWith_35 : decode cX12_goesOnWith 35 = .ok (.iadd, 1) := by decide +kernel
theorem dX12_goesOnWith_36 : decode cX12_goesOnWith 36 = .ok (.caload, 1) := by decide +kernel
theorem dX12_goesOnWith_37 : decode cX12_goesOnWith 37 = .ok (.iload_n 2, 1) := by decide +kernel
theorem dX12_goesOnWith_38 : decode cX12_goesOnWith 38 = .ok (.if_icmp .ne 22, 3) := by decide +kernel
theorem dX12_goesOnWith_41 : decode cX12_goesOnWith 41 = .ok (.aload_n 0, 1) := by decide +kernel
theorem dX12_goesOnWith_42 : decode cX12_goesOnWith 42 = .ok (.getfield 7, 3) := by decide +kernel
theorem dX12_goesOnWith_45 : decode cX12_goesOnWith 45 = .ok (.aload_n 0, 1) := by decide +kernel
theorem dX12_goesOnWith_46 : decode cX12_goesOnWith 46 = .ok (.getfield 267, 3) := by decide +kernel
theorem dX12_goesOnWith_49 : decode cX12_goesOnWith 49 = .ok (.iconst 2, 1) := by decide +kernel
theorem dX12_goesOnWith_50 : decode cX12_goesOnWith 50 = .ok (.iadd, 1) := by decide +kernel
theorem dX12_goesOnWith_51 : decode cX12_goesOnWith 51 = .ok (.caload, 1) := by decide +kernel
theorem dX12_goesOnWith_52 : decode cX12_goesOnWith 52 = .ok (.iload_n 3, 1) := by decide +kernel
theorem dX12_goesOnWith_53 : decode cX12_goesOnWith 53 = .ok (.if_icmp .ne 7, 3) := by decide +kernel
theorem dX12_goesOnWith_56 : decode cX12_goesOnWith 56 = .ok (.iconst 1, 1) := by decide +kernel
theorem dX12_goesOnWith_57 : decode cX12_goesOnWith 57 = .ok (.goto 4, 3) := by decide +kernel
theorem dX12_goesOnWith_60 : decode cX12_goesOnWith 60 = .ok (.iconst 0, 1) := by decide +kernel
theorem dX12_goesOnWith_61 : decode cX12_goesOnWith 61 = .ok (.ireturn, 1) := by decide +kernel
theorem dX12_resultHere_0 : decode cX12_resultHere 0 = .ok (.aload_n 0, 1) := by decide +kernel
theorem dX12_resultHere_1 : decode cX12_resultHere 1 = .ok (.invokevirtual 276, 3) := by decide +kernel
theorem dX12_resultHere_4 : decode cX12_resultHere 4 = .ok (.bipush 42, 2) := by decide +kernel
theorem dX12_resultHere_6 : decode cX12_resultHere 6 = .ok (.if_icmp .ne 5, 3) := by decide +kernel
theorem dX12_resultHere_9 : decode cX12_resultHere 9 = .ok (.iconst 0, 1) := by decide +kernel
theorem dX12_resultHere_10 : decode cX12_resultHere 10 = .ok (.ireturn, 1) := by decide +kernel
theorem dX12_resultHere_11 : decode cX12_resultHere 11 = .ok (.aload_n 0, 1) := by decide +kernel
theorem dX12_resultHere_12 : decode cX12_resultHere 12 = .ok (.bipush 49, 2) := by decide +kernel
theorem dX12_resultHere_14 : decode cX12_resultHere 14 = .ok (.bipush 45, 2) := by decide +kernel
theorem dX12_resultHere_16 : decode cX12_resultHere 16 = .ok (.bipush 48, 2) := by decide +kernel
theorem dX12_resultHere_18 : decode cX12_resultHere 18 = .ok (.invokevirtual 299, 3) := by decide +kernel
theorem dX12_resultHere_21 : decode cX12_resultHere 21 = .ok (.ifCond .eq 5, 3) := by decide +kernel
theorem dX12_resultHere_24 : decode cX12_resultHere 24 = .ok (.iconst 1, 1) := by decide +kernel
theorem dX12_resultHere_25 : decode cX12_resultHere 25 = .ok (.ireturn, 1) := by decide +kernel
theorem dX12_resultHere_26 : decode cX12_resultHere 26 = .ok (.aload_n 0, 1) := by decide +kernel
theorem dX12_resultHere_27 : decode cX12_resultHere 27 = .ok (.bipush 48, 2) := by decide +kernel
theorem dX12_resultHere_29 : decode cX12_resultHere 29 = .ok (.bipush 45, 2) := by decide +kernel
theorem dX12_resultHere_31 : decode cX12_resultHere 31 = .ok (.bipush 49, 2) := by decide +kernel
theorem dX12_resultHere_33 : decode cX12_resultHere 33 = .ok (.invokevirtual 299, 3) := by decide +kernel
theorem dX12_resultHere_36 : decode cX12_resultHere 36 = .ok (.ifCond .eq 5, 3) := by decide +kernel
theorem dX12_resultHere_39 : decode cX12_resultHere 39 = .ok (.iconst 2, 1) := by decide +kernel
theorem dX12_resultHere_40 : decode cX12_resultHere 40 = .ok (.ireturn, 1) := by decide +kernel
theorem dX12_resultHere_41 : decode cX12_resultHere 41 = .ok (.aload_n 0, 1) := by decide +kernel
theorem dX12_resultHere_42 : decode cX12_resultHere 42 = .ok (.bipush 49, 2) := by decide +kernel
theorem dX12_resultHere_44 : decode cX12_resultHere 44 = .ok (.bipush 47, 2) := by decide +kernel
theorem dX12_resultHere_46 : decode cX12_resultHere 46 = .ok (.bipush 50, 2) := by decide +kernel
theorem dX12_resultHere_48 : decode cX12_resultHere 48 = .ok (.invokevirtual 299, 3) := by decide +kernel
theorem dX12_resultHere_51 : decode cX12_resultHere 51 = .ok (.ifCond .eq 86, 3) := by decide +kernel
theorem dX12_resultHere_54 : decode cX12_resultHere 54 = .ok (.aload_n 0, 1) := by decide +kernel
theorem dX12_resultHere_55 : decode cX12_resultHere 55 = .ok (.getfield 267, 3) := by decide +kernel
theorem dX12_resultHere_58 : decode cX12_resultHere 58 = .ok (.bipush 6, 2) := by decide +kernel
theorem dX12_resultHere_60 : decode cX12_resultHere 60 = .ok (.iadd, 1) := by decide +kernel
theorem dX12_resultHere_61 : decode cX12_resultHere 61 = .ok (.aload_n 0, 1) := by decide +kernel
theorem dX12_resultHere_62 : decode cX12_resultHere 62 = .ok (.getfield 270, 3) := by decide +kernel
theorem dX12_resultHere_65 : decode cX12_resultHere 65 = .ok (.if_icmp .ge 72, 3) := by decide +kernel
theorem dX12_resultHere_68 : decode cX12_resultHere 68 = .ok (.aload_n 0, 1) := by decide +kernel
theorem dX12_resultHere_69 : decode cX12_resultHere 69 = .ok (.getfield 7, 3) := by decide +kernel
theorem dX12_resultHere_72 : decode cX12_resultHere 72 = .ok (.aload_n 0, 1) := by decide +kernel
theorem dX12_resultHere_73 : decode cX12_resultHere 73 = .ok (.getfield 267, 3) := by decide +kernel
theorem dX12_resultHere_76 : decode cX12_resultHere 76 = .ok (.iconst 3, 1) := by decide +kernel
theorem dX12_resultHere_77 : decode cX12_resultHere 77 = .ok (.iadd, 1) := by decide +kernel
theorem dX12_resultHere_78 : decode cX12_resultHere 78 = .ok (.caload, 1) := by decide +kernel
theorem dX12_resultHere_79 : decode cX12_resultHere 79 = .ok (.bipush 45, 2) := by decide +kernel
theorem dX12_resultHere_81 : decode cX12_resultHere 81 = .ok (.if_icmp .ne 56, 3) := by decide +kernel
theorem dX12_resultHere_84 : decode cX12_resultHere 84 = .ok (.aload_n 0, 1) := by decide +kernel
theorem dX12_resultHere_85 : decode cX12_resultHere 85 = .ok (.getfield 7, 3) := by decide +kernel
theorem dX12_resultHere_88 : decode cX12_resultHere 88 = .ok (.aload_n 0, 1) := by decide +kernel
theorem dX12_resultHere_89 : decode cX12_resultHere 89 = .ok (.getfield 267, 3) := by decide +kernel
theorem dX12_resultHere_92 : decode cX12_resultHere 92 = .ok (.iconst 4, 1) := by decide +kernel
theorem dX12_resultHere_93 : decode cX12_resultHere 93 = .ok (.iadd, 1) := by decide +kernel
theorem dX12_resultHere_94 : decode cX12_resultHere 94 = .ok (.caload, 1) := by decide +kernel
theorem dX12_resultHere_95 : decode cX12_resultHere 95 = .ok (.bipush 49, 2) := by decide +kernel
theorem dX12_resultHere_97 : decode cX12_resultHere 97 = .ok (.if_icmp .ne 40, 3) := by decide +kernel
theorem dX12_resultHere_100 : decode cX12_resultHere 100 = .ok (.aload_n 0, 1) := by decide +kernel
theorem dX12_resultHere_101 : decode cX12_resultHere 101 = .ok (.getfield 7, 3) := by decide +kernel
theorem dX12_resultHere_104 : decode cX12_resultHere 104 = .ok (.aload_n 0, 1) := by decide +kernel
theorem dX12_resultHere_105 : decode cX12_resultHere 105 = .ok (.getfield 267, 3) := by decide +kernel
theorem dX12_resultHere_108 : decode cX12_resultHere 108 = .ok (.iconst 5, 1) := by decide +kernel
theorem dX12_resultHere_109 : decode cX12_resultHere 109 = .ok (.iadd, 1) := by decide +kernel
theorem dX12_resultHere_110 : decode cX12_resultHere 110 = .ok (.caload, 1) := by decide +kernel
theorem dX12_resultHere_111 : decode cX12_resultHere 111 = .ok (.bipush 47, 2) := by decide +kernel
theorem dX12_resultHere_113 : decode cX12_resultHere 113 = .ok (.if_icmp .ne 24, 3) := by decide +kernel
theorem dX12_resultHere_116 : decode cX12_resultHere 116 = .ok (.aload_n 0, 1) := by decide +kernel
theorem dX12_resultHere_117 : decode cX12_resultHere 117 = .ok (.getfield 7, 3) := by decide +kernel
theorem dX12_resultHere_120 : decode cX12_resultHere 120 = .ok (.aload_n 0, 1) := by decide +kernel
theorem dX12_resultHere_121 : decode cX12_resultHere 121 = .ok (.getfield 267, 3) := by decide +kernel
theorem dX12_resultHere_124 : decode cX12_resultHere 124 = .ok (.bipush 6, 2) := by decide +kernel
theorem dX12_resultHere_126 : decode cX12_resultHere 126 = .ok (.iadd, 1) := by decide +kernel
theorem dX12_resultHere_127 : decode cX12_resultHere 127 = .ok (.caload, 1) := by decide +kernel
theorem dX12_resultHere_128 : decode cX12_resultHere 128 = .ok (.bipush 50, 2) := by decide +kernel
theorem dX12_resultHere_130 : decode cX12_resultHere 130 = .ok (.if_icmp .ne 7, 3) := by decide +kernel
theorem dX12_resultHere_133 : decode cX12_resultHere 133 = .ok (.iconst 1, 1) := by decide +kernel
theorem dX12_resultHere_134 : decode cX12_resultHere 134 = .ok (.goto 4, 3) := by decide +kernel
theorem dX12_resultHere_137 : decode cX12_resultHere 137 = .ok (.iconst 0, 1) := by decide +kernel
theorem dX12_resultHere_138 : decode cX12_resultHere 138 = .ok (.istore_n 1, 1) := by decide +kernel
theorem dX12_resultHere_139 : decode cX12_resultHere 139 = .ok (.iload_n 1, 1) := by decide +kernel
theorem dX12_resultHere_140 : decode cX12_resultHere 140 = .ok (.ifCond .eq 7, 3) := by decide +kernel
theorem dX12_resultHere_143 : decode cX12_resultHere 143 = .ok (.iconst 3, 1) := by decide +kernel
theorem dX12_resultHere_144 : decode cX12_resultHere 144 = .ok (.goto 4, 3) := by decide +kernel
theorem dX12_resultHere_147 : decode cX12_resultHere 147 = .ok (.iconst (-1), 1) := by decide +kernel
theorem dX12_resultHere_148 : decode cX12_resultHere 148 = .ok (.ireturn, 1) := by decide +kernel
theorem dX12_addMarkTo_0 : decode cX12_addMarkTo 0 = .ok (.sipush 301, 3) := by decide +kernel
theorem dX12_addMarkTo_3 : decode cX12_addMarkTo 3 = .ok (.iload_n 1, 1) := by decide +kernel
theorem dX12_addMarkTo_4 : decode cX12_addMarkTo 4 = .ok (.imul, 1) := by decide +kernel
theorem dX12_addMarkTo_5 : decode cX12_addMarkTo 5 = .ok (.iload_n 2, 1) := by decide +kernel
theorem dX12_addMarkTo_6 : decode cX12_addMarkTo 6 = .ok (.iadd, 1) := by decide +kernel
theorem dX12_addMarkTo_7 : decode cX12_addMarkTo 7 = .ok (.istore 4, 2) := by decide +kernel
theorem dX12_addMarkTo_9 : decode cX12_addMarkTo 9 = .ok (.aload_n 0, 1) := by decide +kernel
theorem dX12_addMarkTo_10 : decode cX12_addMarkTo 10 = .ok (.getfield 36, 3) := by decide +kernel
theorem dX12_addMarkTo_13 : decode cX12_addMarkTo 13 = .ok (.iconst 4, 1) := by decide +kernel
theorem dX12_addMarkTo_14 : decode cX12_addMarkTo 14 = .ok (.iload 4, 2) := by decide +kernel
theorem dX12_addMarkTo_16 : decode cX12_addMarkTo 16 = .ok (.imul, 1) := by decide +kernel
theorem dX12_addMarkTo_17 : decode cX12_addMarkTo 17 = .ok (.aload_n 0, 1) := by decide +kernel
theorem dX12_addMarkTo_18 : decode cX12_addMarkTo 18 = .ok (.getfield 33, 3) := by decide +kernel
theorem dX12_addMarkTo_21 : decode cX12_addMarkTo 21 = .ok (.iload 4, 2) := by decide +kernel
theorem dX12_addMarkTo_23 : decode cX12_addMarkTo 23 = .ok (.iaload, 1) := by decide +kernel
theorem dX12_addMarkTo_24 : decode cX12_addMarkTo 24 = .ok (.iadd, 1) := by decide +kernel
theorem dX12_addMarkTo_25 : decode cX12_addMarkTo 25 = .ok (.iload_n 3, 1) := by decide +kernel
theorem dX12_addMarkTo_26 : decode cX12_addMarkTo 26 = .ok (.iastore, 1) := by decide +kernel
theorem dX12_addMarkTo_27 : decode cX12_addMarkTo 27 = .ok (.aload_n 0, 1) := by decide +kernel
theorem dX12_addMarkTo_28 : decode cX12_addMarkTo 28 = .ok (.getfield 33, 3) := by decide +kernel
theorem dX12_addMarkTo_31 : decode cX12_addMarkTo 31 = .ok (.iload 4, 2) := by decide +kernel
theorem dX12_addMarkTo_33 : decode cX12_addMarkTo 33 = .ok (.dup2, 1) := by decide +kernel
theorem dX12_addMarkTo_34 : decode cX12_addMarkTo 34 = .ok (.iaload, 1) := by decide +kernel
theorem dX12_addMarkTo_35 : decode cX12_addMarkTo 35 = .ok (.iconst 1, 1) := by decide +kernel
theorem dX12_addMarkTo_36 : decode cX12_addMarkTo 36 = .ok (.iadd, 1) := by decide +kernel
theorem dX12_addMarkTo_37 : decode cX12_addMarkTo 37 = .ok (.iastore, 1) := by decide +kernel
theorem dX12_addMarkTo_38 : decode cX12_addMarkTo 38 = .ok (.return_, 1) := by decide +kernel
theorem dX12_readMarks_0 : decode cX12_readMarks 0 = .ok (.aload_n 0, 1) := by decide +kernel
theorem dX12_readMarks_1 : decode cX12_readMarks 1 = .ok (.invokevirtual 273, 3) := by decide +kernel
theorem dX12_readMarks_4 : decode cX12_readMarks 4 = .ok (.aload_n 0, 1) := by decide +kernel
theorem dX12_readMarks_5 : decode cX12_readMarks 5 = .ok (.invokevirtual 276, 3) := by decide +kernel
theorem dX12_readMarks_8 : decode cX12_readMarks 8 = .ok (.bipush 33, 2) := by decide +kernel
theorem dX12_readMarks_10 : decode cX12_readMarks 10 = .ok (.if_icmp .eq 12, 3) := by decide +kernel
theorem dX12_readMarks_13 : decode cX12_readMarks 13 = .ok (.aload_n 0, 1) := by decide +kernel
theorem dX12_readMarks_14 : decode cX12_readMarks 14 = .ok (.invokevirtual 276, 3) := by decide +kernel
theorem dX12_readMarks_17 : decode cX12_readMarks 17 = .ok (.bipush 63, 2) := by decide +kernel
theorem dX12_readMarks_19 : decode cX12_readMarks 19 = .ok (.if_icmp .ne 125, 3) := by decide +kernel
theorem dX12_readMarks_22 : decode cX12_readMarks 22 = .ok (.aload_n 0, 1) := by decide +kernel
theorem dX12_readMarks_23 : decode cX12_readMarks 23 = .ok (.invokevirtual 276, 3) := by decide +kernel
theorem dX12_readMarks_26 : decode cX12_readMarks 26 = .ok (.bipush 33, 2) := by decide +kernel
theorem dX12_readMarks_28 : decode cX12_readMarks 28 = .ok (.if_icmp .ne 7, 3) := by decide +kernel
theorem dX12_readMarks_31 : decode cX12_readMarks 31 = .ok (.iconst 1, 1) := by decide +kernel
theorem dX12_readMarks_32 : decode cX12_readMarks 32 = .ok (.goto 4, 3) := by decide +kernel
theorem dX12_readMarks_35 : decode cX12_readMarks 35 = .ok (.iconst 0, 1) := by decide +kernel
theorem dX12_readMarks_36 : decode cX12_readMarks 36 = .ok (.istore_n 3, 1) := by decide +kernel
theorem dX12_readMarks_37 : decode cX12_readMarks 37 = .ok (.aload_n 0, 1) := by decide +kernel
theorem dX12_readMarks_38 : decode cX12_readMarks 38 = .ok (.dup, 1) := by decide +kernel
theorem dX12_readMarks_39 : decode cX12_readMarks 39 = .ok (.getfield 267, 3) := by decide +kernel
theorem dX12_readMarks_42 : decode cX12_readMarks 42 = .ok (.iconst 1, 1) := by decide +kernel
theorem dX12_readMarks_43 : decode cX12_readMarks 43 = .ok (.iadd, 1) := by decide +kernel
theorem dX12_readMarks_44 : decode cX12_readMarks 44 = .ok (.putfield 267, 3) := by decide +kernel
theorem dX12_readMarks_47 : decode cX12_readMarks 47 = .ok (.iload_n 3, 1) := by decide +kernel
theorem dX12_readMarks_48 : decode cX12_readMarks 48 = .ok (.ifCond .eq 7, 3) := by decide +kernel
theorem dX12_readMarks_51 : decode cX12_readMarks 51 = .ok (.iconst 1, 1) := by decide +kernel
theorem dX12_readMarks_52 : decode cX12_readMarks 52 = .ok (.goto 4, 3) := by decide +kernel
theorem dX12_readMarks_55 : decode cX12_readMarks 55 = .ok (.iconst 2, 1) := by decide +kernel
theorem dX12_readMarks_56 : decode cX12_readMarks 56 = .ok (.istore 4, 2) := by decide +kernel
theorem dX12_readMarks_58 : decode cX12_readMarks 58 = .ok (.aload_n 0, 1) := by decide +kernel
theorem dX12_readMarks_59 : decode cX12_readMarks 59 = .ok (.invokevirtual 276, 3) := by decide +kernel
theorem dX12_readMarks_62 : decode cX12_readMarks 62 = .ok (.bipush 33, 2) := by decide +kernel
theorem dX12_readMarks_64 : decode cX12_readMarks 64 = .ok (.if_icmp .eq 12, 3) := by decide +kernel
theorem dX12_readMarks_67 : decode cX12_readMarks 67 = .ok (.aload_n 0, 1) := by decide +kernel
theorem dX12_readMarks_68 : decode cX12_readMarks 68 = .ok (.invokevirtual 276, 3) := by decide +kernel
theorem dX12_readMarks_71 : decode cX12_readMarks 71 = .ok (.bipush 63, 2) := by decide +kernel
theorem dX12_readMarks_73 : decode cX12_readMarks 73 = .ok (.if_icmp .ne 59, 3) := by decide +kernel
theorem dX12_readMarks_76 : decode cX12_readMarks 76 = .ok (.aload_n 0, 1) := by decide +kernel
theorem dX12_readMarks_77 : decode cX12_readMarks 77 = .ok (.invokevirtual 276, 3) := by decide +kernel
theorem dX12_readMarks_80 : decode cX12_readMarks 80 = .ok (.bipush 33, 2) := by decide +kernel
theorem dX12_readMarks_82 : decode cX12_readMarks 82 = .ok (.if_icmp .ne 7, 3) := by decide +kernel
theorem dX12_readMarks_85 : decode cX12_readMarks 85 = .ok (.iconst 1, 1) := by decide +kernel
theorem dX12_readMarks_86 : decode cX12_readMarks 86 = .ok (.goto 4, 3) := by decide +kernel
theorem dX12_readMarks_89 : decode cX12_readMarks 89 = .ok (.iconst 0, 1) := by decide +kernel
theorem dX12_readMarks_90 : decode cX12_readMarks 90 = .ok (.istore 5, 2) := by decide +kernel
theorem dX12_readMarks_92 : decode cX12_readMarks 92 = .ok (.iload_n 3, 1) := by decide +kernel
theorem dX12_readMarks_93 : decode cX12_readMarks 93 = .ok (.ifCond .eq 16, 3) := by decide +kernel
theorem dX12_readMarks_96 : decode cX12_readMarks 96 = .ok (.iload 5, 2) := by decide +kernel
theorem dX12_readMarks_98 : decode cX12_readMarks 98 = .ok (.ifCond .eq 7, 3) := by decide +kernel
theorem dX12_readMarks_101 : decode cX12_readMarks 101 = .ok (.iconst 3, 1) := by decide +kernel
theorem dX12_readMarks_102 : decode cX12_readMarks 102 = .ok (.goto 18, 3) := by decide +kernel
theorem dX12_readMarks_105 : decode cX12_readMarks 105 = .ok (.iconst 5, 1) := by decide +kernel
theorem dX12_readMarks_106 : decode cX12_readMarks 106 = .ok (.goto 14, 3) := by decide +kernel
theorem dX12_readMarks_109 : decode cX12_readMarks 109 = .ok (.iload 5, 2) := by decide +kernel
theorem dX12_readMarks_111 : decode cX12_readMarks 111 = .ok (.ifCond .eq 8, 3) := by decide +kernel
theorem dX12_readMarks_114 : decode cX12_readMarks 114 = .ok (.bipush 6, 2) := by decide +kernel
theorem dX12_readMarks_116 : decode cX12_readMarks 116 = .ok (.goto 4, 3) := by decide +kernel
theorem dX12_readMarks_119 : decode cX12_readMarks 119 = .ok (.iconst 4, 1) := by decide +kernel
theorem dX12_readMarks_120 : decode cX12_readMarks 120 = .ok (.istore 4, 2) := by decide +kernel
theorem dX12_readMarks_122 : decode cX12_readMarks 122 = .ok (.aload_n 0, 1) := by decide +kernel
theorem dX12_readMarks_123 : decode cX12_readMarks 123 = .ok (.dup, 1) := by decide +kernel
theorem dX12_readMarks_124 : decode cX12_readMarks 124 = .ok (.getfield 267, 3) := by decide +kernel
theorem dX12_readMarks_127 : decode cX12_readMarks 127 = .ok (.iconst 1, 1) := by decide +kernel
theorem dX12_readMarks_128 : decode cX12_readMarks 128 = .ok (.iadd, 1) := by decide +kernel
theorem dX12_readMarks_129 : decode cX12_readMarks 129 = .ok (.putfield 267, 3) := by decide +kernel
theorem dX12_readMarks_132 : decode cX12_readMarks 132 = .ok (.aload_n 0, 1) := by decide +kernel
theorem dX12_readMarks_133 : decode cX12_readMarks 133 = .ok (.iload_n 1, 1) := by decide +kernel
theorem dX12_readMarks_134 : decode cX12_readMarks 134 = .ok (.iload_n 2, 1) := by decide +kernel
theorem dX12_readMarks_135 : decode cX12_readMarks 135 = .ok (.iload 4, 2) := by decide +kernel
theorem dX12_readMarks_137 : decode cX12_readMarks 137 = .ok (.invokevirtual 303, 3) := by decide +kernel
theorem dX12_readMarks_140 : decode cX12_readMarks 140 = .ok (.aload_n 0, 1) := by decide +kernel
theorem dX12_readMarks_141 : decode cX12_readMarks 141 = .ok (.invokevirtual 273, 3) := by decide +kernel
theorem dX12_readMarks_144 : decode cX12_readMarks 144 = .ok (.aload_n 0, 1) := by decide +kernel
theorem dX12_readMarks_145 : decode cX12_readMarks 145 = .ok (.invokevirtual 276, 3) := by decide +kernel
theorem dX12_readMarks_148 : decode cX12_readMarks 148 = .ok (.bipush 36, 2) := by decide +kernel
theorem dX12_readMarks_150 : decode cX12_readMarks 150 = .ok (.if_icmp .ne 141, 3) := by decide +kernel
theorem dX12_readMarks_153 : decode cX12_readMarks 153 = .ok (.aload_n 0, 1) := by decide +kernel
theorem dX12_readMarks_154 : decode cX12_readMarks 154 = .ok (.getfield 267, 3) := by decide +kernel
theorem dX12_readMarks_157 : decode cX12_readMarks 157 = .ok (.istore_n 3, 1) := by decide +kernel
theorem dX12_readMarks_158 : decode cX12_readMarks 158 = .ok (.aload_n 0, 1) := by decide +kernel
theorem dX12_readMarks_159 : decode cX12_readMarks 159 = .ok (.dup, 1) := by decide +kernel
theorem dX12_readMarks_160 : decode cX12_readMarks 160 = .ok (.getfield 267, 3) := by decide +kernel
theorem dX12_readMarks_163 : decode cX12_readMarks 163 = .ok (.iconst 1, 1) := by decide +kernel
theorem dX12_readMarks_164 : decode cX12_readMarks 164 = .ok (.iadd, 1) := by decide +kernel
theorem dX12_readMarks_165 : decode cX12_readMarks 165 = .ok (.putfield 267, 3) := by decide +kernel
theorem dX12_readMarks_168 : decode cX12_readMarks 168 = .ok (.iconst 0, 1) := by decide +kernel
theorem dX12_readMarks_169 : decode cX12_readMarks 169 = .ok (.istore 4, 2) := by decide +kernel
theorem dX12_readMarks_171 : decode cX12_readMarks 171 = .ok (.iconst 0, 1) := by decide +kernel
theorem dX12_readMarks_172 : decode cX12_readMarks 172 = .ok (.istore 5, 2) := by decide +kernel
theorem dX12_readMarks_174 : decode cX12_readMarks 174 = .ok (.aload_n 0, 1) := by decide +kernel
theorem dX12_readMarks_175 : decode cX12_readMarks 175 = .ok (.invokevirtual 276, 3) := by decide +kernel
theorem dX12_readMarks_178 : decode cX12_readMarks 178 = .ok (.invokestatic 282, 3) := by decide +kernel
theorem dX12_readMarks_181 : decode cX12_readMarks 181 = .ok (.ifCond .eq 40, 3) := by decide +kernel
theorem dX12_readMarks_184 : decode cX12_readMarks 184 = .ok (.iload 5, 2) := by decide +kernel
theorem dX12_readMarks_186 : decode cX12_readMarks 186 = .ok (.iconst 3, 1) := by decide +kernel
theorem dX12_readMarks_187 : decode cX12_readMarks 187 = .ok (.if_icmp .ge 34, 3) := by decide +kernel
theorem dX12_readMarks_190 : decode cX12_readMarks 190 = .ok (.bipush 10, 2) := by decide +kernel
theorem dX12_readMarks_192 : decode cX12_readMarks 192 = .ok (.iload 4, 2) := by decide +kernel
theorem dX12_readMarks_194 : decode cX12_readMarks 194 = .ok (.imul, 1) := by decide +kernel
theorem dX12_readMarks_195 : decode cX12_readMarks 195 = .ok (.aload_n 0, 1) := by decide +kernel
theorem dX12_readMarks_196 : decode cX12_readMarks 196 = .ok (.invokevirtual 276, 3) := by decide +kernel
theorem dX12_readMarks_199 : decode cX12_readMarks 199 = .ok (.iadd, 1) := by decide +kernel
theorem dX12_readMarks_200 : decode cX12_readMarks 200 = .ok (.bipush 48, 2) := by decide +kernel
theorem dX12_readMarks_202 : decode cX12_readMarks 202 = .ok (.isub, 1) := by decide +kernel
theorem dX12_readMarks_203 : decode cX12_readMarks 203 = .ok (.istore 4, 2) := by decide +kernel
theorem dX12_readMarks_205 : decode cX12_readMarks 205 = .ok (.iinc 5 1, 3) := by decide +kernel
theorem dX12_readMarks_208 : decode cX12_readMarks 208 = .ok (.aload_n 0, 1) := by decide +kernel
theorem dX12_readMarks_209 : decode cX12_readMarks 209 = .ok (.dup, 1) := by decide +kernel
theorem dX12_readMarks_210 : decode cX12_readMarks 210 = .ok (.getfield 267, 3) := by decide +kernel
theorem dX12_readMarks_213 : decode cX12_readMarks 213 = .ok (.iconst 1, 1) := by decide +kernel
theorem dX12_readMarks_214 : decode cX12_readMarks 214 = .ok (.iadd, 1) := by decide +kernel
theorem dX12_readMarks_215 : decode cX12_readMarks 215 = .ok (.putfield 267, 3) := by decide +kernel
theorem dX12_readMarks_218 : decode cX12_readMarks 218 = .ok (.goto (-44), 3) := by decide +kernel
theorem dX12_readMarks_221 : decode cX12_readMarks 221 = .ok (.iload 5, 2) := by decide +kernel
theorem dX12_readMarks_223 : decode cX12_readMarks 223 = .ok (.ifCond .eq 13, 3) := by decide +kernel
theorem dX12_readMarks_226 : decode cX12_readMarks 226 = .ok (.aload_n 0, 1) := by decide +kernel
theorem dX12_readMarks_227 : decode cX12_readMarks 227 = .ok (.invokevirtual 276, 3) := by decide +kernel
theorem dX12_readMarks_230 : decode cX12_readMarks 230 = .ok (.invokestatic 282, 3) := by decide +kernel
theorem dX12_readMarks_233 : decode cX12_readMarks 233 = .ok (.ifCond .eq 12, 3) := by decide +kernel
theorem dX12_readMarks_236 : decode cX12_readMarks 236 = .ok (.iconst 1, 1) := by decide +kernel
theorem dX12_readMarks_237 : decode cX12_readMarks 237 = .ok (.aload_n 0, 1) := by decide +kernel
theorem dX12_readMarks_238 : decode cX12_readMarks 238 = .ok (.getfield 267, 3) := by decide +kernel
theorem dX12_readMarks_241 : decode cX12_readMarks 241 = .ok (.invokestatic 285, 3) := by decide +kernel
theorem dX12_readMarks_244 : decode cX12_readMarks 244 = .ok (.ireturn, 1) := by decide +kernel
theorem dX12_readMarks_245 : decode cX12_readMarks 245 = .ok (.iload 4, 2) := by decide +kernel
theorem dX12_readMarks_247 : decode cX12_readMarks 247 = .ok (.sipush 255, 3) := by decide +kernel
theorem dX12_readMarks_250 : decode cX12_readMarks 250 = .ok (.if_icmp .gt 19, 3) := by decide +kernel
theorem dX12_readMarks_253 : decode cX12_readMarks 253 = .ok (.aload_n 0, 1) := by decide +kernel
theorem dX12_readMarks_254 : decode cX12_readMarks 254 = .ok (.getfield 33, 3) := by decide +kernel
theorem dX12_readMarks_257 : decode cX12_readMarks 257 = .ok (.sipush 301, 3) := by decide +kernel
theorem dX12_readMarks_260 : decode cX12_readMarks 260 = .ok (.iload_n 1, 1) := by decide +kernel
theorem dX12_readMarks_261 : decode cX12_readMarks 261 = .ok (.imul, 1) := by decide +kernel
theorem dX12_readMarks_262 : decode cX12_readMarks 262 = .ok (.iload_n 2, 1) := by decide +kernel
theorem dX12_readMarks_263 : decode cX12_readMarks 263 = .ok (.iadd, 1) := by decide +kernel
theorem dX12_readMarks_264 : decode cX12_readMarks 264 = .ok (.iaload, 1) := by decide +kernel
theorem dX12_readMarks_265 : decode cX12_readMarks 265 = .ok (.iconst 4, 1) := by decide +kernel
theorem dX12_readMarks_266 : decode cX12_readMarks 266 = .ok (.if_icmp .ne 10, 3) := by decide +kernel
theorem dX12_readMarks_269 : decode cX12_readMarks 269 = .ok (.bipush 8, 2) := by decide +kernel
theorem dX12_readMarks_271 : decode cX12_readMarks 271 = .ok (.iload_n 3, 1) := by decide +kernel
theorem dX12_readMarks_272 : decode cX12_readMarks 272 = .ok (.invokestatic 285, 3) := by decide +kernel
theorem dX12_readMarks_275 : decode cX12_readMarks 275 = .ok (.ireturn, 1) := by decide +kernel
theorem dX12_readMarks_276 : decode cX12_readMarks 276 = .ok (.aload_n 0, 1) := by decide +kernel
theorem dX12_readMarks_277 : decode cX12_readMarks 277 = .ok (.iload_n 1, 1) := by decide +kernel
theorem dX12_readMarks_278 : decode cX12_readMarks 278 = .ok (.iload_n 2, 1) := by decide +kernel
theorem dX12_readMarks_279 : decode cX12_readMarks 279 = .ok (.iload 4, 2) := by decide +kernel
theorem dX12_readMarks_281 : decode cX12_readMarks 281 = .ok (.invokevirtual 303, 3) := by decide +kernel
theorem dX12_readMarks_284 : decode cX12_readMarks 284 = .ok (.aload_n 0, 1) := by decide +kernel
theorem dX12_readMarks_285 : decode cX12_readMarks 285 = .ok (.invokevirtual 273, 3) := by decide +kernel
theorem dX12_readMarks_288 : decode cX12_readMarks 288 = .ok (.goto (-144), 3) := by decide +kernel
theorem dX12_readMarks_291 : decode cX12_readMarks 291 = .ok (.iconst 0, 1) := by decide +kernel
theorem dX12_readMarks_292 : decode cX12_readMarks 292 = .ok (.ireturn, 1) := by decide +kernel
theorem dX12_readMoveNumber_0 : decode cX12_readMoveNumber 0 = .ok (.aload_n 0, 1) := by decide +kernel
theorem dX12_readMoveNumber_1 : decode cX12_readMoveNumber 1 = .ok (.invokevirtual 276, 3) := by decide +kernel
theorem dX12_readMoveNumber_4 : decode cX12_readMoveNumber 4 = .ok (.invokestatic 282, 3) := by decide +kernel
theorem dX12_readMoveNumber_7 : decode cX12_readMoveNumber 7 = .ok (.ifCond .ne 5, 3) := by decide +kernel
theorem dX12_readMoveNumber_10 : decode cX12_readMoveNumber 10 = .ok (.iconst 0, 1) := by decide +kernel
theorem dX12_readMoveNumber_11 : decode cX12_readMoveNumber 11 = .ok (.ireturn, 1) := by decide +kernel
theorem dX12_readMoveNumber_12 : decode cX12_readMoveNumber 12 = .ok (.aload_n 0, 1) := by decide +kernel
theorem dX12_readMoveNumber_13 : decode cX12_readMoveNumber 13 = .ok (.getfield 267, 3) := by decide +kernel
theorem dX12_readMoveNumber_16 : decode cX12_readMoveNumber 16 = .ok (.istore_n 1, 1) := by decide +kernel
theorem dX12_readMoveNumber_17 : decode cX12_readMoveNumber 17 = .ok (.iconst 0, 1) := by decide +kernel
theorem dX12_readMoveNumber_18 : decode cX12_readMoveNumber 18 = .ok (.istore_n 2, 1) := by decide +kernel
theorem dX12_readMoveNumber_19 : decode cX12_readMoveNumber 19 = .ok (.iconst 0, 1) := by decide +kernel
theorem dX12_readMoveNumber_20 : decode cX12_readMoveNumber 20 = .ok (.istore_n 3, 1) := by decide +kernel
theorem dX12_readMoveNumber_21 : decode cX12_readMoveNumber 21 = .ok (.aload_n 0, 1) := by decide +kernel
theorem dX12_readMoveNumber_22 : decode cX12_readMoveNumber 22 = .ok (.invokevirtual 276, 3) := by decide +kernel
theorem dX12_readMoveNumber_25 : decode cX12_readMoveNumber 25 = .ok (.invokestatic 282, 3) := by decide +kernel
theorem dX12_readMoveNumber_28 : decode cX12_readMoveNumber 28 = .ok (.ifCond .eq 37, 3) := by decide +kernel
theorem dX12_readMoveNumber_31 : decode cX12_readMoveNumber 31 = .ok (.iload_n 3, 1) := by decide +kernel
theorem dX12_readMoveNumber_32 : decode cX12_readMoveNumber 32 = .ok (.iconst 4, 1) := by decide +kernel
theorem dX12_readMoveNumber_33 : decode cX12_readMoveNumber 33 = .ok (.if_icmp .ge 32, 3) := by decide +kernel
theorem dX12_readMoveNumber_36 : decode cX12_readMoveNumber 36 = .ok (.bipush 10, 2) := by decide +kernel
theorem dX12_readMoveNumber_38 : decode cX12_readMoveNumber 38 = .ok (.iload_n 2, 1) := by decide +kernel
theorem dX12_readMoveNumber_39 : decode cX12_readMoveNumber 39 = .ok (.imul, 1) := by decide +kernel
theorem dX12_readMoveNumber_40 : decode cX12_readMoveNumber 40 = .ok (.aload_n 0, 1) := by decide +kernel
theorem dX12_readMoveNumber_41 : decode cX12_readMoveNumber 41 = .ok (.invokevirtual 276, 3) := by decide +kernel
theorem dX12_readMoveNumber_44 : decode cX12_readMoveNumber 44 = .ok (.iadd, 1) := by decide +kernel
theorem dX12_readMoveNumber_45 : decode cX12_readMoveNumber 45 = .ok (.bipush 48, 2) := by decide +kernel
theorem dX12_readMoveNumber_47 : decode cX12_readMoveNumber 47 = .ok (.isub, 1) := by decide +kernel
theorem dX12_readMoveNumber_48 : decode cX12_readMoveNumber 48 = .ok (.istore_n 2, 1) := by decide +kernel
theorem dX12_readMoveNumber_49 : decode cX12_readMoveNumber 49 = .ok (.iinc 3 1, 3) := by decide +kernel
theorem dX12_readMoveNumber_52 : decode cX12_readMoveNumber 52 = .ok (.aload_n 0, 1) := by decide +kernel
theorem dX12_readMoveNumber_53 : decode cX12_readMoveNumber 53 = .ok (.dup, 1) := by decide +kernel
theorem dX12_readMoveNumber_54 : decode cX12_readMoveNumber 54 = .ok (.getfield 267, 3) := by decide +kernel
theorem dX12_readMoveNumber_57 : decode cX12_readMoveNumber 57 = .ok (.iconst 1, 1) := by decide +kernel
theorem dX12_readMoveNumber_58 : decode cX12_readMoveNumber 58 = .ok (.iadd, 1) := by decide +kernel
theorem dX12_readMoveNumber_59 : decode cX12_readMoveNumber 59 = .ok (.putfield 267, 3) := by decide +kernel
theorem dX12_readMoveNumber_62 : decode cX12_readMoveNumber 62 = .ok (.goto (-41), 3) := by decide +kernel
theorem dX12_readMoveNumber_65 : decode cX12_readMoveNumber 65 = .ok (.aload_n 0, 1) := by decide +kernel
theorem dX12_readMoveNumber_66 : decode cX12_readMoveNumber 66 = .ok (.invokevirtual 276, 3) := by decide +kernel
theorem dX12_readMoveNumber_69 : decode cX12_readMoveNumber 69 = .ok (.bipush 46, 2) := by decide +kernel
theorem dX12_readMoveNumber_71 : decode cX12_readMoveNumber 71 = .ok (.if_icmp .ne 16, 3) := by decide +kernel
theorem dX12_readMoveNumber_74 : decode cX12_readMoveNumber 74 = .ok (.aload_n 0, 1) := by decide +kernel
theorem dX12_readMoveNumber_75 : decode cX12_readMoveNumber 75 = .ok (.dup, 1) := by decide +kernel
theorem dX12_readMoveNumber_76 : decode cX12_readMoveNumber 76 = .ok (.getfield 267, 3) := by decide +kernel
theorem dX12_readMoveNumber_79 : decode cX12_readMoveNumber 79 = .ok (.iconst 1, 1) := by decide +kernel
theorem dX12_readMoveNumber_80 : decode cX12_readMoveNumber 80 = .ok (.iadd, 1) := by decide +kernel
theorem dX12_readMoveNumber_81 : decode cX12_readMoveNumber 81 = .ok (.putfield 267, 3) := by decide +kernel
theorem dX12_readMoveNumber_84 : decode cX12_readMoveNumber 84 = .ok (.goto (-19), 3) := by decide +kernel
theorem dX12_readMoveNumber_87 : decode cX12_readMoveNumber 87 = .ok (.iload_n 2, 1) := by decide +kernel
theorem dX12_readMoveNumber_88 : decode cX12_readMoveNumber 88 = .ok (.aload_n 0, 1) := by decide +kernel
theorem dX12_readMoveNumber_89 : decode cX12_readMoveNumber 89 = .ok (.getfield 133, 3) := by decide +kernel
theorem dX12_readMoveNumber_92 : decode cX12_readMoveNumber 92 = .ok (.if_icmp .eq 10, 3) := by decide +kernel
theorem dX12_readMoveNumber_95 : decode cX12_readMoveNumber 95 = .ok (.bipush 7, 2) := by decide +kernel
theorem dX12_readMoveNumber_97 : decode cX12_readMoveNumber 97 = .ok (.iload_n 1, 1) := by decide +kernel
theorem dX12_readMoveNumber_98 : decode cX12_readMoveNumber 98 = .ok (.invokestatic 285, 3) := by decide +kernel
theorem dX12_readMoveNumber_101 : decode cX12_readMoveNumber 101 = .ok (.ireturn, 1) := by decide +kernel
theorem dX12_readMoveNumber_102 : decode cX12_readMoveNumber 102 = .ok (.aload_n 0, 1) := by decide +kernel
theorem dX12_readMoveNumber_103 : decode cX12_readMoveNumber 103 = .ok (.invokevirtual 273, 3) := by decide +kernel
theorem dX12_readMoveNumber_106 : decode cX12_readMoveNumber 106 = .ok (.iconst 0, 1) := by decide +kernel
theorem dX12_readMoveNumber_107 : decode cX12_readMoveNumber 107 = .ok (.ireturn, 1) := by decide +kernel
theorem dX12_readMove_0 : decode cX12_readMove 0 = .ok (.aload_n 0, 1) := by decide +kernel
theorem dX12_readMove_1 : decode cX12_readMove 1 = .ok (.getfield 267, 3) := by decide +kernel
theorem dX12_readMove_4 : decode cX12_readMove 4 = .ok (.istore_n 3, 1) := by decide +kernel
theorem dX12_readMove_5 : decode cX12_readMove 5 = .ok (.aload_n 0, 1) := by decide +kernel
theorem dX12_readMove_6 : decode cX12_readMove 6 = .ok (.invokevirtual 276, 3) := by decide +kernel
theorem dX12_readMove_9 : decode cX12_readMove 9 = .ok (.invokestatic 279, 3) := by decide +kernel
theorem dX12_readMove_12 : decode cX12_readMove 12 = .ok (.ifCond .ne 13, 3) := by decide +kernel
theorem dX12_readMove_15 : decode cX12_readMove 15 = .ok (.iconst 1, 1) := by decide +kernel
theorem dX12_readMove_16 : decode cX12_readMove 16 = .ok (.aload_n 0, 1) := by decide +kernel
theorem dX12_readMove_17 : decode cX12_readMove 17 = .ok (.getfield 267, 3) := by decide +kernel
theorem dX12_readMove_20 : decode cX12_readMove 20 = .ok (.invokestatic 285, 3) := by decide +kernel
theorem dX12_readMove_23 : decode cX12_readMove 23 = .ok (.ineg, 1) := by decide +kernel
theorem dX12_readMove_24 : decode cX12_readMove 24 = .ok (.ireturn, 1) := by decide +kernel
theorem dX12_readMove_25 : decode cX12_readMove 25 = .ok (.aload_n 0, 1) := by decide +kernel
theorem dX12_readMove_26 : decode cX12_readMove 26 = .ok (.invokevirtual 276, 3) := by decide +kernel
theorem dX12_readMove_29 : decode cX12_readMove 29 = .ok (.invokestatic 279, 3) := by decide +kernel
theorem dX12_readMove_32 : decode cX12_readMove 32 = .ok (.ifCond .ne 49, 3) := by decide +kernel
theorem dX12_readMove_35 : decode cX12_readMove 35 = .ok (.aload_n 0, 1) := by decide +kernel
theorem dX12_readMove_36 : decode cX12_readMove 36 = .ok (.invokevirtual 276, 3) := by decide +kernel
theorem dX12_readMove_39 : decode cX12_readMove 39 = .ok (.invokestatic 282, 3) := by decide +kernel
theorem dX12_readMove_42 : decode cX12_readMove 42 = .ok (.ifCond .ne 39, 3) := by decide +kernel
theorem dX12_readMove_45 : decode cX12_readMove 45 = .ok (.aload_n 0, 1) := by decide +kernel
theorem dX12_readMove_46 : decode cX12_readMove 46 = .ok (.invokevirtual 276, 3) := by decide +kernel
theorem dX12_readMove_49 : decode cX12_readMove 49 = .ok (.bipush 61, 2) := by decide +kernel
theorem dX12_readMove_51 : decode cX12_readMove 51 = .ok (.if_icmp .eq 30, 3) := by decide +kernel
theorem dX12_readMove_54 : decode cX12_readMove 54 = .ok (.aload_n 0, 1) := by decide +kernel
theorem dX12_readMove_55 : decode cX12_readMove 55 = .ok (.invokevirtual 276, 3) := by decide +kernel
theorem dX12_readMove_58 : decode cX12_readMove 58 = .ok (.bipush 45, 2) := by decide +kernel
theorem dX12_readMove_60 : decode cX12_readMove 60 = .ok (.if_icmp .eq 21, 3) := by decide +kernel
theorem dX12_readMove_63 : decode cX12_readMove 63 = .ok (.aload_n 0, 1) := by decide +kernel
theorem dX12_readMove_64 : decode cX12_readMove 64 = .ok (.invokevirtual 276, 3) := by decide +kernel
theorem dX12_readMove_67 : decode cX12_readMove 67 = .ok (.bipush 43, 2) := by decide +kernel
theorem dX12_readMove_69 : decode cX12_readMove 69 = .ok (.if_icmp .eq 12, 3) := by decide +kernel
theorem dX12_readMove_72 : decode cX12_readMove 72 = .ok (.aload_n 0, 1) := by decide +kernel
theorem dX12_readMove_73 : decode cX12_readMove 73 = .ok (.invokevirtual 276, 3) := by decide +kernel
theorem dX12_readMove_76 : decode cX12_readMove 76 = .ok (.bipush 35, 2) := by decide +kernel
theorem dX12_readMove_78 : decode cX12_readMove 78 = .ok (.if_icmp .ne 16, 3) := by decide +kernel
theorem dX12_readMove_81 : decode cX12_readMove 81 = .ok (.aload_n 0, 1) := by decide +kernel
theorem dX12_readMove_82 : decode cX12_readMove 82 = .ok (.dup, 1) := by decide +kernel
theorem dX12_readMove_83 : decode cX12_readMove 83 = .ok (.getfield 267, 3) := by decide +kernel
theorem dX12_readMove_86 : decode cX12_readMove 86 = .ok (.iconst 1, 1) := by decide +kernel
theorem dX12_readMove_87 : decode cX12_readMove 87 = .ok (.iadd, 1) := by decide +kernel
theorem dX12_readMove_88 : decode cX12_readMove 88 = .ok (.putfield 267, 3) := by decide +kernel
theorem dX12_readMove_91 : decode cX12_readMove 91 = .ok (.goto (-66), 3) := by decide +kernel
theorem dX12_readMove_94 : decode cX12_readMove 94 = .ok (.aload_n 0, 1) := by decide +kernel
theorem dX12_readMove_95 : decode cX12_readMove 95 = .ok (.iload_n 3, 1) := by decide +kernel
theorem dX12_readMove_96 : decode cX12_readMove 96 = .ok (.aload_n 0, 1) := by decide +kernel
theorem dX12_readMove_97 : decode cX12_readMove 97 = .ok (.getfield 267, 3) := by decide +kernel
theorem dX12_readMove_100 : decode cX12_readMove 100 = .ok (.invokevirtual 307, 3) := by decide +kernel
theorem dX12_readMove_103 : decode cX12_readMove 103 = .ok (.istore 4, 2) := by decide +kernel
theorem dX12_readMove_105 : decode cX12_readMove 105 = .ok (.iload 4, 2) := by decide +kernel
theorem dX12_readMove_107 : decode cX12_readMove 107 = .ok (.ifCond .ge 21, 3) := by decide +kernel
theorem dX12_readMove_110 : decode cX12_readMove 110 = .ok (.iload 4, 2) := by decide +kernel
theorem dX12_readMove_112 : decode cX12_readMove 112 = .ok (.bipush (-2), 2) := by decide +kernel
theorem dX12_readMove_114 : decode cX12_readMove 114 = .ok (.if_icmp .ne 7, 3) := by decide +kernel
theorem dX12_readMove_117 : decode cX12_readMove 117 = .ok (.iconst 5, 1) := by decide +kernel
theorem dX12_readMove_118 : decode cX12_readMove 118 = .ok (.goto 4, 3) := by decide +kernel
theorem dX12_readMove_121 : decode cX12_readMove 121 = .ok (.iconst 4, 1) := by decide +kernel
theorem dX12_readMove_122 : decode cX12_readMove 122 = .ok (.iload_n 3, 1) := by decide +kernel
theorem dX12_readMove_123 : decode cX12_readMove 123 = .ok (.invokestatic 285, 3) := by decide +kernel
theorem dX12_readMove_126 : decode cX12_readMove 126 = .ok (.ineg, 1) := by decide +kernel
theorem dX12_readMove_127 : decode cX12_readMove 127 = .ok (.ireturn, 1) := by decide +kernel
theorem dX12_readMove_128 : decode cX12_readMove 128 = .ok (.aload_n 0, 1) := by decide +kernel
theorem dX12_readMove_129 : decode cX12_readMove 129 = .ok (.iload_n 1, 1) := by decide +kernel
theorem dX12_readMove_130 : decode cX12_readMove 130 = .ok (.iload_n 2, 1) := by decide +kernel
theorem dX12_readMove_131 : decode cX12_readMove 131 = .ok (.iload 4, 2) := by decide +kernel
theorem dX12_readMove_133 : decode cX12_readMove 133 = .ok (.invokevirtual 310, 3) := by decide +kernel
theorem dX12_readMove_136 : decode cX12_readMove 136 = .ok (.ifCond .lt 11, 3) := by decide +kernel
theorem dX12_readMove_139 : decode cX12_readMove 139 = .ok (.bipush 6, 2) := by decide +kernel
theorem dX12_readMove_141 : decode cX12_readMove 141 = .ok (.iload_n 3, 1) := by decide +kernel
theorem dX12_readMove_142 : decode cX12_readMove 142 = .ok (.invokestatic 285, 3) := by decide +kernel
theorem dX12_readMove_145 : decode cX12_readMove 145 = .ok (.ineg, 1) := by decide +kernel
theorem dX12_readMove_146 : decode cX12_readMove 146 = .ok (.ireturn, 1) := by decide +kernel
theorem dX12_readMove_147 : decode cX12_readMove 147 = .ok (.aload_n 0, 1) := by decide +kernel
theorem dX12_readMove_148 : decode cX12_readMove 148 = .ok (.getfield 17, 3) := by decide +kernel
theorem dX12_readMove_151 : decode cX12_readMove 151 = .ok (.iload_n 1, 1) := by decide +kernel
theorem dX12_readMove_152 : decode cX12_readMove 152 = .ok (.iaload, 1) := by decide +kernel
theorem dX12_readMove_153 : decode cX12_readMove 153 = .ok (.sipush 300, 3) := by decide +kernel
theorem dX12_readMove_156 : decode cX12_readMove 156 = .ok (.if_icmp .ne 11, 3) := by decide +kernel
theorem dX12_readMove_159 : decode cX12_readMove 159 = .ok (.bipush 8, 2) := by decide +kernel
theorem dX12_readMove_161 : decode cX12_readMove 161 = .ok (.iload_n 3, 1) := by decide +kernel
theorem dX12_readMove_162 : decode cX12_readMove 162 = .ok (.invokestatic 285, 3) := by decide +kernel
theorem dX12_readMove_165 : decode cX12_readMove 165 = .ok (.ineg, 1) := by decide +kernel
theorem dX12_readMove_166 : decode cX12_readMove 166 = .ok (.ireturn, 1) := by decide +kernel
theorem dX12_readMove_167 : decode cX12_readMove 167 = .ok (.aload_n 0, 1) := by decide +kernel
theorem dX12_readMove_168 : decode cX12_readMove 168 = .ok (.iload_n 1, 1) := by decide +kernel
theorem dX12_readMove_169 : decode cX12_readMove 169 = .ok (.iload_n 2, 1) := by decide +kernel
theorem dX12_readMove_170 : decode cX12_readMove 170 = .ok (.iload 4, 2) := by decide +kernel
theorem dX12_readMove_172 : decode cX12_readMove 172 = .ok (.invokevirtual 313, 3) := by decide +kernel
theorem dX12_readMove_175 : decode cX12_readMove 175 = .ok (.ireturn, 1) := by decide +kernel
theorem dX12_readLine_0 : decode cX12_readLine 0 = .ok (.iload_n 2, 1) := by decide +kernel
theorem dX12_readLine_1 : decode cX12_readLine 1 = .ok (.istore 4, 2) := by decide +kernel
theorem dX12_readLine_3 : decode cX12_readLine 3 = .ok (.aload_n 0, 1) := by decide +kernel
theorem dX12_readLine_4 : decode cX12_readLine 4 = .ok (.invokevirtual 273, 3) := by decide +kernel
theorem dX12_readLine_7 : decode cX12_readLine 7 = .ok (.iload_n 3, 1) := by decide +kernel
theorem dX12_readLine_8 : decode cX12_readLine 8 = .ok (.ifCond .ne 13, 3) := by decide +kernel
theorem dX12_readLine_11 : decode cX12_readLine 11 = .ok (.aload_n 0, 1) := by decide +kernel
theorem dX12_readLine_12 : decode cX12_readLine 12 = .ok (.invokevirtual 316, 3) := by decide +kernel
theorem dX12_readLine_15 : decode cX12_readLine 15 = .ok (.ifCond .lt 23, 3) := by decide +kernel
theorem dX12_readLine_18 : decode cX12_readLine 18 = .ok (.goto 18, 3) := by decide +kernel
theorem dX12_readLine_21 : decode cX12_readLine 21 = .ok (.aload_n 0, 1) := by decide +kernel
theorem dX12_readLine_22 : decode cX12_readLine 22 = .ok (.invokevirtual 276, 3) := by decide +kernel
theorem dX12_readLine_25 : decode cX12_readLine 25 = .ok (.bipush 41, 2) := by decide +kernel
theorem dX12_readLine_27 : decode cX12_readLine 27 = .ok (.if_icmp .ne 11, 3) := by decide +kernel
theorem dX12_readLine_30 : decode cX12_readLine 30 = .ok (.iload 4, 2) := by decide +kernel
theorem dX12_readLine_32 : decode cX12_readLine 32 = .ok (.iload_n 2, 1) := by decide +kernel
theorem dX12_readLine_33 : decode cX12_readLine 33 = .ok (.if_icmp .eq 5, 3) := by decide +kernel
theorem dX12_readLine_36 : decode cX12_readLine 36 = .ok (.iconst 0, 1) := by decide +kernel
theorem dX12_readLine_37 : decode cX12_readLine 37 = .ok (.ireturn, 1) := by decide +kernel
theorem dX12_readLine_38 : decode cX12_readLine 38 = .ok (.aload_n 0, 1) := by decide +kernel
theorem dX12_readLine_39 : decode cX12_readLine 39 = .ok (.iload_n 1, 1) := by decide +kernel
theorem dX12_readLine_40 : decode cX12_readLine 40 = .ok (.iload 4, 2) := by decide +kernel
theorem dX12_readLine_42 : decode cX12_readLine 42 = .ok (.invokevirtual 95, 3) := by decide +kernel
theorem dX12_readLine_45 : decode cX12_readLine 45 = .ok (.aload_n 0, 1) := by decide +kernel
theorem dX12_readLine_46 : decode cX12_readLine 46 = .ok (.invokevirtual 319, 3) := by decide +kernel
theorem dX12_readLine_49 : decode cX12_readLine 49 = .ok (.istore 5, 2) := by decide +kernel
theorem dX12_readLine_51 : decode cX12_readLine 51 = .ok (.iload 5, 2) := by decide +kernel
theorem dX12_readLine_53 : decode cX12_readLine 53 = .ok (.ifCond .le 6, 3) := by decide +kernel
theorem dX12_readLine_56 : decode cX12_readLine 56 = .ok (.iload 5, 2) := by decide +kernel
theorem dX12_readLine_58 : decode cX12_readLine 58 = .ok (.ireturn, 1) := by decide +kernel
theorem dX12_readLine_59 : decode cX12_readLine 59 = .ok (.aload_n 0, 1) := by decide +kernel
theorem dX12_readLine_60 : decode cX12_readLine 60 = .ok (.iload_n 1, 1) := by decide +kernel
theorem dX12_readLine_61 : decode cX12_readLine 61 = .ok (.iload 4, 2) := by decide +kernel
theorem dX12_readLine_63 : decode cX12_readLine 63 = .ok (.invokevirtual 322, 3) := by decide +kernel
theorem dX12_readLine_66 : decode cX12_readLine 66 = .ok (.istore 6, 2) := by decide +kernel
theorem dX12_readLine_68 : decode cX12_readLine 68 = .ok (.iload 6, 2) := by decide +kernel
theorem dX12_readLine_70 : decode cX12_readLine 70 = .ok (.ifCond .ge 7, 3) := by decide +kernel
theorem dX12_readLine_73 : decode cX12_readLine 73 = .ok (.iload 6, 2) := by decide +kernel
theorem dX12_readLine_75 : decode cX12_readLine 75 = .ok (.ineg, 1) := by decide +kernel
theorem dX12_readLine_76 : decode cX12_readLine 76 = .ok (.ireturn, 1) := by decide +kernel
theorem dX12_readLine_77 : decode cX12_readLine 77 = .ok (.iload 4, 2) := by decide +kernel
theorem dX12_readLine_79 : decode cX12_readLine 79 = .ok (.istore 7, 2) := by decide +kernel
theorem dX12_readLine_81 : decode cX12_readLine 81 = .ok (.iload 6, 2) := by decide +kernel
theorem dX12_readLine_83 : decode cX12_readLine 83 = .ok (.istore 4, 2) := by decide +kernel
theorem dX12_readLine_85 : decode cX12_readLine 85 = .ok (.aload_n 0, 1) := by decide +kernel
theorem dX12_readLine_86 : decode cX12_readLine 86 = .ok (.iload_n 1, 1) := by decide +kernel
theorem dX12_readLine_87 : decode cX12_readLine 87 = .ok (.iload 4, 2) := by decide +kernel
theorem dX12_readLine_89 : decode cX12_readLine 89 = .ok (.invokevirtual 325, 3) := by decide +kernel
theorem dX12_readLine_92 : decode cX12_readLine 92 = .ok (.istore 5, 2) := by decide +kernel
theorem dX12_readLine_94 : decode cX12_readLine 94 = .ok (.iload 5, 2) := by decide +kernel
theorem dX12_readLine_96 : decode cX12_readLine 96 = .ok (.ifCond .le 8, 3) := by decide +kernel
theorem dX12_readLine_99 : decode cX12_readLine 99 = .ok (.iload 5, 2) := by decide +kernel
theorem dX12_readLine_101 : decode cX12_readLine 101 = .ok (.goto 10, 3) := by decide +kernel
theorem dX12_readLine_104 : decode cX12_readLine 104 = .ok (.aload_n 0, 1) := by decide +kernel
theorem dX12_readLine_105 : decode cX12_readLine 105 = .ok (.iload_n 1, 1) := by decide +kernel
theorem dX12_readLine_106 : decode cX12_readLine 106 = .ok (.iload 4, 2) := by decide +kernel
theorem dX12_readLine_108 : decode cX12_readLine 108 = .ok (.invokevirtual 328, 3) := by decide +kernel
theorem dX12_readLine_111 : decode cX12_readLine 111 = .ok (.istore 5, 2) := by decide +kernel
theorem dX12_readLine_113 : decode cX12_readLine 113 = .ok (.iload 5, 2) := by decide +kernel
theorem dX12_readLine_115 : decode cX12_readLine 115 = .ok (.ifCond .ne 109, 3) := by decide +kernel
theorem dX12_readLine_118 : decode cX12_readLine 118 = .ok (.aload_n 0, 1) := by decide +kernel
theorem dX12_readLine_119 : decode cX12_readLine 119 = .ok (.invokevirtual 276, 3) := by decide +kernel
theorem dX12_readLine_122 : decode cX12_readLine 122 = .ok (.bipush 40, 2) := by decide +kernel
theorem dX12_readLine_124 : decode cX12_readLine 124 = .ok (.if_icmp .ne 100, 3) := by decide +kernel
theorem dX12_readLine_127 : decode cX12_readLine 127 = .ok (.iload_n 3, 1) := by decide +kernel
theorem dX12_readLine_128 : decode cX12_readLine 128 = .ok (.bipush 6, 2) := by decide +kernel
theorem dX12_readLine_130 : decode cX12_readLine 130 = .ok (.if_icmp .ne 15, 3) := by decide +kernel
theorem dX12_readLine_133 : decode cX12_readLine 133 = .ok (.bipush 8, 2) := by decide +kernel
theorem dX12_readLine_135 : decode cX12_readLine 135 = .ok (.aload_n 0, 1) := by decide +kernel
theorem dX12_readLine_136 : decode cX12_readLine 136 = .ok (.getfield 267, 3) := by decide +kernel
theorem dX12_readLine_139 : decode cX12_readLine 139 = .ok (.invokestatic 285, 3) := by decide +kernel
theorem dX12_readLine_142 : decode cX12_readLine 142 = .ok (.goto 4, 3) := by decide +kernel
theorem dX12_readLine_145 : decode cX12_readLine 145 = .ok (.iconst 0, 1) := by decide +kernel
theorem dX12_readLine_146 : decode cX12_readLine 146 = .ok (.istore 5, 2) := by decide +kernel
theorem dX12_readLine_148 : decode cX12_readLine 148 = .ok (.aload_n 0, 1) := by decide +kernel
theorem dX12_readLine_149 : decode cX12_readLine 149 = .ok (.dup, 1) := by decide +kernel
theorem dX12_readLine_150 : decode cX12_readLine 150 = .ok (.getfield 267, 3) := by decide +kernel
theorem dX12_readLine_153 : decode cX12_readLine 153 = .ok (.iconst 1, 1) := by decide +kernel
theorem dX12_readLine_154 : decode cX12_readLine 154 = .ok (.iadd, 1) := by decide +kernel
theorem dX12_readLine_155 : decode cX12_readLine 155 = .ok (.putfield 267, 3) := by decide +kernel
theorem dX12_readLine_158 : decode cX12_readLine 158 = .ok (.iload 5, 2) := by decide +kernel
theorem dX12_readLine_160 : decode cX12_readLine 160 = .ok (.ifCond .le 8, 3) := by decide +kernel
theorem dX12_readLine_163 : decode cX12_readLine 163 = .ok (.iload 5, 2) := by decide +kernel
theorem dX12_readLine_165 : decode cX12_readLine 165 = .ok (.goto 13, 3) := by decide +kernel
theorem dX12_readLine_168 : decode cX12_readLine 168 = .ok (.aload_n 0, 1) := by decide +kernel
theorem dX12_readLine_169 : decode cX12_readLine 169 = .ok (.iload_n 1, 1) := by decide +kernel
theorem dX12_readLine_170 : decode cX12_readLine 170 = .ok (.iload 7, 2) := by decide +kernel
theorem dX12_readLine_172 : decode cX12_readLine 172 = .ok (.iload_n 3, 1) := by decide +kernel
theorem dX12_readLine_173 : decode cX12_readLine 173 = .ok (.iconst 1, 1) := by decide +kernel
theorem dX12_readLine_174 : decode cX12_readLine 174 = .ok (.iadd, 1) := by decide +kernel
theorem dX12_readLine_175 : decode cX12_readLine 175 = .ok (.invokevirtual 331, 3) := by decide +kernel
theorem dX12_readLine_178 : decode cX12_readLine 178 = .ok (.istore 5, 2) := by decide +kernel
theorem dX12_readLine_180 : decode cX12_readLine 180 = .ok (.aload_n 0, 1) := by decide +kernel
theorem dX12_readLine_181 : decode cX12_readLine 181 = .ok (.iload 5, 2) := by decide +kernel
theorem dX12_readLine_183 : decode cX12_readLine 183 = .ok (.ifCond .le 10, 3) := by decide +kernel
theorem dX12_readLine_186 : decode cX12_readLine 186 = .ok (.aload_n 0, 1) := by decide +kernel
theorem dX12_readLine_187 : decode cX12_readLine 187 = .ok (.getfield 267, 3) := by decide +kernel
theorem dX12_readLine_190 : decode cX12_readLine 190 = .ok (.goto 9, 3) := by decide +kernel
theorem dX12_readLine_193 : decode cX12_readLine 193 = .ok (.aload_n 0, 1) := by decide +kernel
theorem dX12_readLine_194 : decode cX12_readLine 194 = .ok (.getfield 267, 3) := by decide +kernel
theorem dX12_readLine_197 : decode cX12_readLine 197 = .ok (.iconst 1, 1) := by decide +kernel
theorem dX12_readLine_198 : decode cX12_readLine 198 = .ok (.iadd, 1) := by decide +kernel
theorem dX12_readLine_199 : decode cX12_readLine 199 = .ok (.putfield 267, 3) := by decide +kernel
theorem dX12_readLine_202 : decode cX12_readLine 202 = .ok (.iload 5, 2) := by decide +kernel
theorem dX12_readLine_204 : decode cX12_readLine 204 = .ok (.ifCond .le 8, 3) := by decide +kernel
theorem dX12_readLine_207 : decode cX12_readLine 207 = .ok (.iload 5, 2) := by decide +kernel
theorem dX12_readLine_209 : decode cX12_readLine 209 = .ok (.goto 10, 3) := by decide +kernel
theorem dX12_readLine_212 : decode cX12_readLine 212 = .ok (.aload_n 0, 1) := by decide +kernel
theorem dX12_readLine_213 : decode cX12_readLine 213 = .ok (.iload_n 1, 1) := by decide +kernel
theorem dX12_readLine_214 : decode cX12_readLine 214 = .ok (.iload 4, 2) := by decide +kernel
theorem dX12_readLine_216 : decode cX12_readLine 216 = .ok (.invokevirtual 328, 3) := by decide +kernel
theorem dX12_readLine_219 : decode cX12_readLine 219 = .ok (.istore 5, 2) := by decide +kernel
theorem dX12_readLine_221 : decode cX12_readLine 221 = .ok (.goto (-108), 3) := by decide +kernel
theorem dX12_readLine_224 : decode cX12_readLine 224 = .ok (.iload 5, 2) := by decide +kernel
theorem dX12_readLine_226 : decode cX12_readLine 226 = .ok (.ifCond .le 6, 3) := by decide +kernel
theorem dX12_readLine_229 : decode cX12_readLine 229 = .ok (.iload 5, 2) := by decide +kernel
theorem dX12_readLine_231 : decode cX12_readLine 231 = .ok (.ireturn, 1) := by decide +kernel
theorem dX12_readLine_232 : decode cX12_readLine 232 = .ok (.goto (-229), 3) := by decide +kernel
theorem dX12_readGame_0 : decode cX12_readGame 0 = .ok (.aload_n 0, 1) := by decide +kernel
theorem dX12_readGame_1 : decode cX12_readGame 1 = .ok (.iconst 0, 1) := by decide +kernel
theorem dX12_readGame_2 : decode cX12_readGame 2 = .ok (.putfield 267, 3) := by decide +kernel
theorem dX12_readGame_5 : decode cX12_readGame 5 = .ok (.aload_n 0, 1) := by decide +kernel
theorem dX12_readGame_6 : decode cX12_readGame 6 = .ok (.invokevirtual 273, 3) := by decide +kernel
theorem dX12_readGame_9 : decode cX12_readGame 9 = .ok (.aload_n 0, 1) := by decide +kernel
theorem dX12_readGame_10 : decode cX12_readGame 10 = .ok (.invokevirtual 276, 3) := by decide +kernel
theorem dX12_readGame_13 : decode cX12_readGame 13 = .ok (.bipush 91, 2) := by decide +kernel
theorem dX12_readGame_15 : decode cX12_readGame 15 = .ok (.if_icmp .ne 22, 3) := by decide +kernel
theorem dX12_readGame_18 : decode cX12_readGame 18 = .ok (.aload_n 0, 1) := by decide +kernel
theorem dX12_readGame_19 : decode cX12_readGame 19 = .ok (.iload_n 1, 1) := by decide +kernel
theorem dX12_readGame_20 : decode cX12_readGame 20 = .ok (.invokevirtual 334, 3) := by decide +kernel
theorem dX12_readGame_23 : decode cX12_readGame 23 = .ok (.istore_n 2, 1) := by decide +kernel
theorem dX12_readGame_24 : decode cX12_readGame 24 = .ok (.iload_n 2, 1) := by decide +kernel
theorem dX12_readGame_25 : decode cX12_readGame 25 = .ok (.ifCond .le 5, 3) := by decide +kernel
theorem dX12_readGame_28 : decode cX12_readGame 28 = .ok (.iload_n 2, 1) := by decide +kernel
theorem dX12_readGame_29 : decode cX12_readGame 29 = .ok (.ireturn, 1) := by decide +kernel
theorem dX12_readGame_30 : decode cX12_readGame 30 = .ok (.aload_n 0, 1) := by decide +kernel
theorem dX12_readGame_31 : decode cX12_readGame 31 = .ok (.invokevirtual 273, 3) := by decide +kernel
theorem dX12_readGame_34 : decode cX12_readGame 34 = .ok (.goto (-25), 3) := by decide +kernel
theorem dX12_readGame_37 : decode cX12_readGame 37 = .ok (.aload_n 0, 1) := by decide +kernel
theorem dX12_readGame_38 : decode cX12_readGame 38 = .ok (.iload_n 1, 1) := by decide +kernel
theorem dX12_readGame_39 : decode cX12_readGame 39 = .ok (.iconst 0, 1) := by decide +kernel
theorem dX12_readGame_40 : decode cX12_readGame 40 = .ok (.invokevirtual 328, 3) := by decide +kernel
theorem dX12_readGame_43 : decode cX12_readGame 43 = .ok (.istore_n 2, 1) := by decide +kernel
theorem dX12_readGame_44 : decode cX12_readGame 44 = .ok (.iload_n 2, 1) := by decide +kernel
theorem dX12_readGame_45 : decode cX12_readGame 45 = .ok (.ifCond .le 7, 3) := by decide +kernel
theorem dX12_readGame_48 : decode cX12_readGame 48 = .ok (.iload_n 2, 1) := by decide +kernel
theorem dX12_readGame_49 : decode cX12_readGame 49 = .ok (.goto 10, 3) := by decide +kernel
theorem dX12_readGame_52 : decode cX12_readGame 52 = .ok (.aload_n 0, 1) := by decide +kernel
theorem dX12_readGame_53 : decode cX12_readGame 53 = .ok (.iload_n 1, 1) := by decide +kernel
theorem dX12_readGame_54 : decode cX12_readGame 54 = .ok (.iconst 0, 1) := by decide +kernel
theorem dX12_readGame_55 : decode cX12_readGame 55 = .ok (.iconst 0, 1) := by decide +kernel
theorem dX12_readGame_56 : decode cX12_readGame 56 = .ok (.invokevirtual 331, 3) := by decide +kernel
theorem dX12_readGame_59 : decode cX12_readGame 59 = .ok (.istore_n 2, 1) := by decide +kernel
theorem dX12_readGame_60 : decode cX12_readGame 60 = .ok (.iload_n 2, 1) := by decide +kernel
theorem dX12_readGame_61 : decode cX12_readGame 61 = .ok (.ifCond .le 5, 3) := by decide +kernel
theorem dX12_readGame_64 : decode cX12_readGame 64 = .ok (.iload_n 2, 1) := by decide +kernel
theorem dX12_readGame_65 : decode cX12_readGame 65 = .ok (.ireturn, 1) := by decide +kernel
theorem dX12_readGame_66 : decode cX12_readGame 66 = .ok (.aload_n 0, 1) := by decide +kernel
theorem dX12_readGame_67 : decode cX12_readGame 67 = .ok (.invokevirtual 316, 3) := by decide +kernel
theorem dX12_readGame_70 : decode cX12_readGame 70 = .ok (.istore_n 3, 1) := by decide +kernel
theorem dX12_readGame_71 : decode cX12_readGame 71 = .ok (.iconst 0, 1) := by decide +kernel
theorem dX12_readGame_72 : decode cX12_readGame 72 = .ok (.istore 4, 2) := by decide +kernel
theorem dX12_readGame_74 : decode cX12_readGame 74 = .ok (.iload 4, 2) := by decide +kernel
theorem dX12_readGame_76 : decode cX12_readGame 76 = .ok (.aload_n 0, 1) := by decide +kernel
theorem dX12_readGame_77 : decode cX12_readGame 77 = .ok (.getfield 52, 3) := by decide +kernel
theorem dX12_readGame_80 : decode cX12_readGame 80 = .ok (.iload_n 1, 1) := by decide +kernel
theorem dX12_readGame_81 : decode cX12_readGame 81 = .ok (.iaload, 1) := by decide +kernel
theorem dX12_readGame_82 : decode cX12_readGame 82 = .ok (.if_icmp .ge 41, 3) := by decide +kernel
theorem dX12_readGame_85 : decode cX12_readGame 85 = .ok (.aload_n 0, 1) := by decide +kernel
theorem dX12_readGame_86 : decode cX12_readGame 86 = .ok (.iload 4, 2) := by decide +kernel
theorem dX12_readGame_88 : decode cX12_readGame 88 = .ok (.iload_n 1, 1) := by decide +kernel
theorem dX12_readGame_89 : decode cX12_readGame 89 = .ok (.iconst 1, 1) := by decide +kernel
theorem dX12_readGame_90 : decode cX12_readGame 90 = .ok (.invokevirtual 292, 3) := by decide +kernel
theorem dX12_readGame_93 : decode cX12_readGame 93 = .ok (.ifCond .eq 24, 3) := by decide +kernel
theorem dX12_readGame_96 : decode cX12_readGame 96 = .ok (.aload_n 0, 1) := by decide +kernel
theorem dX12_readGame_97 : decode cX12_readGame 97 = .ok (.iload_n 1, 1) := by decide +kernel
theorem dX12_readGame_98 : decode cX12_readGame 98 = .ok (.iload 4, 2) := by decide +kernel
theorem dX12_readGame_100 : decode cX12_readGame 100 = .ok (.iload_n 3, 1) := by decide +kernel
theorem dX12_readGame_101 : decode cX12_readGame 101 = .ok (.invokevirtual 337, 3) := by decide +kernel
theorem dX12_readGame_104 : decode cX12_readGame 104 = .ok (.ifCond .ne 13, 3) := by decide +kernel
theorem dX12_readGame_107 : decode cX12_readGame 107 = .ok (.bipush 9, 2) := by decide +kernel
theorem dX12_readGame_109 : decode cX12_readGame 109 = .ok (.aload_n 0, 1) := by decide +kernel
theorem dX12_readGame_110 : decode cX12_readGame 110 = .ok (.getfield 267, 3) := by decide +kernel
theorem dX12_readGame_113 : decode cX12_readGame 113 = .ok (.invokestatic 285, 3) := by decide +kernel
theorem dX12_readGame_116 : decode cX12_readGame 116 = .ok (.ireturn, 1) := by decide +kernel
theorem dX12_readGame_117 : decode cX12_readGame 117 = .ok (.iinc 4 1, 3) := by decide +kernel
theorem dX12_readGame_120 : decode cX12_readGame 120 = .ok (.goto (-46), 3) := by decide +kernel
theorem dX12_readGame_123 : decode cX12_readGame 123 = .ok (.aload_n 0, 1) := by decide +kernel
theorem dX12_readGame_124 : decode cX12_readGame 124 = .ok (.getfield 67, 3) := by decide +kernel
theorem dX12_readGame_127 : decode cX12_readGame 127 = .ok (.iload_n 1, 1) := by decide +kernel
theorem dX12_readGame_128 : decode cX12_readGame 128 = .ok (.iload_n 3, 1) := by decide +kernel
theorem dX12_readGame_129 : decode cX12_readGame 129 = .ok (.iastore, 1) := by decide +kernel
theorem dX12_readGame_130 : decode cX12_readGame 130 = .ok (.aload_n 0, 1) := by decide +kernel
theorem dX12_readGame_131 : decode cX12_readGame 131 = .ok (.aload_n 0, 1) := by decide +kernel
theorem dX12_readGame_132 : decode cX12_readGame 132 = .ok (.getfield 267, 3) := by decide +kernel
theorem dX12_readGame_135 : decode cX12_readGame 135 = .ok (.iload_n 3, 1) := by decide +kernel
theorem dX12_readGame_136 : decode cX12_readGame 136 = .ok (.ifCond .ne 7, 3) := by decide +kernel
theorem dX12_readGame_139 : decode cX12_readGame 139 = .ok (.iconst 1, 1) := by decide +kernel
theorem dX12_readGame_140 : decode cX12_readGame 140 = .ok (.goto 14, 3) := by decide +kernel
theorem dX12_readGame_143 : decode cX12_readGame 143 = .ok (.iload_n 3, 1) := by decide +kernel
theorem dX12_readGame_144 : decode cX12_readGame 144 = .ok (.iconst 3, 1) := by decide +kernel
theorem dX12_readGame_145 : decode cX12_readGame 145 = .ok (.if_icmp .ne 8, 3) := by decide +kernel
theorem dX12_readGame_148 : decode cX12_readGame 148 = .ok (.bipush 7, 2) := by decide +kernel
theorem dX12_readGame_150 : decode cX12_readGame 150 = .ok (.goto 4, 3) := by decide +kernel
theorem dX12_readGame_153 : decode cX12_readGame 153 = .ok (.iconst 3, 1) := by decide +kernel
theorem dX12_readGame_154 : decode cX12_readGame 154 = .ok (.iadd, 1) := by decide +kernel
theorem dX12_readGame_155 : decode cX12_readGame 155 = .ok (.putfield 267, 3) := by decide +kernel
theorem dX12_readGame_158 : decode cX12_readGame 158 = .ok (.aload_n 0, 1) := by decide +kernel
theorem dX12_readGame_159 : decode cX12_readGame 159 = .ok (.invokevirtual 273, 3) := by decide +kernel
theorem dX12_readGame_162 : decode cX12_readGame 162 = .ok (.aload_n 0, 1) := by decide +kernel
theorem dX12_readGame_163 : decode cX12_readGame 163 = .ok (.getfield 267, 3) := by decide +kernel
theorem dX12_readGame_166 : decode cX12_readGame 166 = .ok (.aload_n 0, 1) := by decide +kernel
theorem dX12_readGame_167 : decode cX12_readGame 167 = .ok (.getfield 270, 3) := by decide +kernel
theorem dX12_readGame_170 : decode cX12_readGame 170 = .ok (.if_icmp .ge 14, 3) := by decide +kernel
theorem dX12_readGame_173 : decode cX12_readGame 173 = .ok (.iconst 1, 1) := by decide +kernel
theorem dX12_readGame_174 : decode cX12_readGame 174 = .ok (.aload_n 0, 1) := by decide +kernel
theorem dX12_readGame_175 : decode cX12_readGame 175 = .ok (.getfield 267, 3) := by decide +kernel
theorem dX12_readGame_178 : decode cX12_readGame 178 = .ok (.invokestatic 285, 3) := by decide +kernel
theorem dX12_readGame_181 : decode cX12_readGame 181 = .ok (.goto 4, 3) := by decide +kernel
theorem dX12_readGame_184 : decode cX12_readGame 184 = .ok (.iconst 0, 1) := by decide +kernel
theorem dX12_readGame_185 : decode cX12_readGame 185 = .ok (.ireturn, 1) := by decide +kernel
theorem dX12_resultSign_0 : decode cX12_resultSign 0 = .ok (.iload_n 0, 1) := by decide +kernel
theorem dX12_resultSign_1 : decode cX12_resultSign 1 = .ok (.tableswitch 74 0 2 #[27, 30, 52], 27) := by decide +kernel
theorem dX12_resultSign_28 : decode cX12_resultSign 28 = .ok (.bipush 42, 2) := by decide +kernel
theorem dX12_resultSign_30 : decode cX12_resultSign 30 = .ok (.ireturn, 1) := by decide +kernel
theorem dX12_resultSign_31 : decode cX12_resultSign 31 = .ok (.iload_n 1, 1) := by decide +kernel
theorem dX12_resultSign_32 : decode cX12_resultSign 32 = .ok (.ifCond .ne 8, 3) := by decide +kernel
theorem dX12_resultSign_35 : decode cX12_resultSign 35 = .ok (.bipush 49, 2) := by decide +kernel
theorem dX12_resultSign_37 : decode cX12_resultSign 37 = .ok (.goto 15, 3) := by decide +kernel
theorem dX12_resultSign_40 : decode cX12_resultSign 40 = .ok (.iload_n 1, 1) := by decide +kernel
theorem dX12_resultSign_41 : decode cX12_resultSign 41 = .ok (.iconst 1, 1) := by decide +kernel
theorem dX12_resultSign_42 : decode cX12_resultSign 42 = .ok (.if_icmp .ne 8, 3) := by decide +kernel
theorem dX12_resultSign_45 : decode cX12_resultSign 45 = .ok (.bipush 45, 2) := by decide +kernel
theorem dX12_resultSign_47 : decode cX12_resultSign 47 = .ok (.goto 5, 3) := by decide +kernel
theorem dX12_resultSign_50 : decode cX12_resultSign 50 = .ok (.bipush 48, 2) := by decide +kernel
theorem dX12_resultSign_52 : decode cX12_resultSign 52 = .ok (.ireturn, 1) := by decide +kernel
theorem dX12_resultSign_53 : decode cX12_resultSign 53 = .ok (.iload_n 1, 1) := by decide +kernel
theorem dX12_resultSign_54 : decode cX12_resultSign 54 = .ok (.ifCond .ne 8, 3) := by decide +kernel
theorem dX12_resultSign_57 : decode cX12_resultSign 57 = .ok (.bipush 48, 2) := by decide +kernel
theorem dX12_resultSign_59 : decode cX12_resultSign 59 = .ok (.goto 15, 3) := by decide +kernel
theorem dX12_resultSign_62 : decode cX12_resultSign 62 = .ok (.iload_n 1, 1) := by decide +kernel
theorem dX12_resultSign_63 : decode cX12_resultSign 63 = .ok (.iconst 1, 1) := by decide +kernel
theorem dX12_resultSign_64 : decode cX12_resultSign 64 = .ok (.if_icmp .ne 8, 3) := by decide +kernel
theorem dX12_resultSign_67 : decode cX12_resultSign 67 = .ok (.bipush 45, 2) := by decide +kernel
theorem dX12_resultSign_69 : decode cX12_resultSign 69 = .ok (.goto 5, 3) := by decide +kernel
theorem dX12_resultSign_72 : decode cX12_resultSign 72 = .ok (.bipush 49, 2) := by decide +kernel
theorem dX12_resultSign_74 : decode cX12_resultSign 74 = .ok (.ireturn, 1) := by decide +kernel
theorem dX12_resultSign_75 : decode cX12_resultSign 75 = .ok (.iload_n 1, 1) := by decide +kernel
theorem dX12_resultSign_76 : decode cX12_resultSign 76 = .ok (.iconst 1, 1) := by decide +kernel
theorem dX12_resultSign_77 : decode cX12_resultSign 77 = .ok (.if_icmp .eq 8, 3) := by decide +kernel
theorem dX12_resultSign_80 : decode cX12_resultSign 80 = .ok (.iload_n 1, 1) := by decide +kernel
theorem dX12_resultSign_81 : decode cX12_resultSign 81 = .ok (.iconst 5, 1) := by decide +kernel
theorem dX12_resultSign_82 : decode cX12_resultSign 82 = .ok (.if_icmp .ne 8, 3) := by decide +kernel
theorem dX12_resultSign_85 : decode cX12_resultSign 85 = .ok (.bipush 47, 2) := by decide +kernel
theorem dX12_resultSign_87 : decode cX12_resultSign 87 = .ok (.goto 29, 3) := by decide +kernel
theorem dX12_resultSign_90 : decode cX12_resultSign 90 = .ok (.iload_n 1, 1) := by decide +kernel
theorem dX12_resultSign_91 : decode cX12_resultSign 91 = .ok (.iconst 3, 1) := by decide +kernel
theorem dX12_resultSign_92 : decode cX12_resultSign 92 = .ok (.if_icmp .ne 8, 3) := by decide +kernel
theorem dX12_resultSign_95 : decode cX12_resultSign 95 = .ok (.bipush 45, 2) := by decide +kernel
theorem dX12_resultSign_97 : decode cX12_resultSign 97 = .ok (.goto 19, 3) := by decide +kernel
theorem dX12_resultSign_100 : decode cX12_resultSign 100 = .ok (.iload_n 1, 1) := by decide +kernel
theorem dX12_resultSign_101 : decode cX12_resultSign 101 = .ok (.ifCond .eq 8, 3) := by decide +kernel
theorem dX12_resultSign_104 : decode cX12_resultSign 104 = .ok (.iload_n 1, 1) := by decide +kernel
theorem dX12_resultSign_105 : decode cX12_resultSign 105 = .ok (.iconst 4, 1) := by decide +kernel
theorem dX12_resultSign_106 : decode cX12_resultSign 106 = .ok (.if_icmp .ne 8, 3) := by decide +kernel
theorem dX12_resultSign_109 : decode cX12_resultSign 109 = .ok (.bipush 49, 2) := by decide +kernel
theorem dX12_resultSign_111 : decode cX12_resultSign 111 = .ok (.goto 5, 3) := by decide +kernel
theorem dX12_resultSign_114 : decode cX12_resultSign 114 = .ok (.bipush 50, 2) := by decide +kernel
theorem dX12_resultSign_116 : decode cX12_resultSign 116 = .ok (.ireturn, 1) := by decide +kernel
theorem dX12_resultSize_0 : decode cX12_resultSize 0 = .ok (.iload_n 0, 1) := by decide +kernel
theorem dX12_resultSize_1 : decode cX12_resultSize 1 = .ok (.ifCond .ne 7, 3) := by decide +kernel
theorem dX12_resultSize_4 : decode cX12_resultSize 4 = .ok (.iconst 1, 1) := by decide +kernel
theorem dX12_resultSize_5 : decode cX12_resultSize 5 = .ok (.goto 14, 3) := by decide +kernel
theorem dX12_resultSize_8 : decode cX12_resultSize 8 = .ok (.iload_n 0, 1) := by decide +kernel
theorem dX12_resultSize_9 : decode cX12_resultSize 9 = .ok (.iconst 3, 1) := by decide +kernel
theorem dX12_resultSize_10 : decode cX12_resultSize 10 = .ok (.if_icmp .ne 8, 3) := by decide +kernel
theorem dX12_resultSize_13 : decode cX12_resultSize 13 = .ok (.bipush 7, 2) := by decide +kernel
theorem dX12_resultSize_15 : decode cX12_resultSize 15 = .ok (.goto 4, 3) := by decide +kernel
theorem dX12_resultSize_18 : decode cX12_resultSize 18 = .ok (.iconst 3, 1) := by decide +kernel
