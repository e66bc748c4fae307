section
theorem dX12_readPosition_105 : decode cX12_readPosition 105 = .ok (.goto 4, 3) := by decide +kernel
theorem dX12_readPosition_108 : decode cX12_readPosition 108 = .ok (.iconst 1, 1) := by decide +kernel
theorem dX12_readPosition_109 : decode cX12_readPosition 109 = .ok (.putfield 121, 3) := by decide +kernel
theorem dX12_readPosition_112 : decode cX12_readPosition 112 = .ok (.aload_n 0, 1) := by decide +kernel
theorem dX12_readPosition_113 : decode cX12_readPosition 113 = .ok (.invokevirtual 235, 3) := by decide +kernel
theorem dX12_readPosition_116 : decode cX12_readPosition 116 = .ok (.bipush 119, 2) := by decide +kernel
theorem dX12_readPosition_118 : decode cX12_readPosition 118 = .ok (.if_icmp .eq 12, 3) := by decide +kernel
theorem dX12_readPosition_121 : decode cX12_readPosition 121 = .ok (.aload_n 0, 1) := by decide +kernel
theorem dX12_readPosition_122 : decode cX12_readPosition 122 = .ok (.invokevirtual 235, 3) := by decide +kernel
theorem dX12_readPosition_125 : decode cX12_readPosition 125 = .ok (.bipush 98, 2) := by decide +kernel
theorem dX12_readPosition_127 : decode cX12_readPosition 127 = .ok (.if_icmp .ne 7, 3) := by decide +kernel
theorem dX12_readPosition_130 : decode cX12_readPosition 130 = .ok (.iconst 1, 1) := by decide +kernel
theorem dX12_readPosition_131 : decode cX12_readPosition 131 = .ok (.goto 4, 3) := by decide +kernel
theorem dX12_readPosition_134 : decode cX12_readPosition 134 = .ok (.iconst 0, 1) := by decide +kernel
theorem dX12_readPosition_135 : decode cX12_readPosition 135 = .ok (.istore_n 3, 1) := by decide +kernel
theorem dX12_readPosition_136 : decode cX12_readPosition 136 = .ok (.aload_n 0, 1) := by decide +kernel
theorem dX12_readPosition_137 : decode cX12_readPosition 137 = .ok (.dup, 1) := by decide +kernel
theorem dX12_readPosition_138 : decode cX12_readPosition 138 = .ok (.getfield 229, 3) := by decide +kernel
theorem dX12_readPosition_141 : decode cX12_readPosition 141 = .ok (.iconst 1, 1) := by decide +kernel
theorem dX12_readPosition_142 : decode cX12_readPosition 142 = .ok (.iadd, 1) := by decide +kernel
theorem dX12_readPosition_143 : decode cX12_readPosition 143 = .ok (.putfield 229, 3) := by decide +kernel
theorem dX12_readPosition_146 : decode cX12_readPosition 146 = .ok (.iload_n 3, 1) := by decide +kernel
theorem dX12_readPosition_147 : decode cX12_readPosition 147 = .ok (.ifCond .eq 48, 3) := by decide +kernel
theorem dX12_readPosition_150 : decode cX12_readPosition 150 = .ok (.aload_n 0, 1) := by decide +kernel
theorem dX12_readPosition_151 : decode cX12_readPosition 151 = .ok (.bipush 32, 2) := by decide +kernel
theorem dX12_readPosition_153 : decode cX12_readPosition 153 = .ok (.invokevirtual 243, 3) := by decide +kernel
theorem dX12_readPosition_156 : decode cX12_readPosition 156 = .ok (.ifCond .eq 39, 3) := by decide +kernel
theorem dX12_readPosition_159 : decode cX12_readPosition 159 = .ok (.aload_n 0, 1) := by decide +kernel
theorem dX12_readPosition_160 : decode cX12_readPosition 160 = .ok (.invokevirtual 253, 3) := by decide +kernel
theorem dX12_readPosition_163 : decode cX12_readPosition 163 = .ok (.ifCond .eq 32, 3) := by decide +kernel
theorem dX12_readPosition_166 : decode cX12_readPosition 166 = .ok (.aload_n 0, 1) := by decide +kernel
theorem dX12_readPosition_167 : decode cX12_readPosition 167 = .ok (.bipush 32, 2) := by decide +kernel
theorem dX12_readPosition_169 : decode cX12_readPosition 169 = .ok (.invokevirtual 243, 3) := by decide +kernel
theorem dX12_readPosition_172 : decode cX12_readPosition 172 = .ok (.ifCond .eq 23, 3) := by decide +kernel
theorem dX12_readPosition_175 : decode cX12_readPosition 175 = .ok (.aload_n 0, 1) := by decide +kernel
theorem dX12_readPosition_176 : decode cX12_readPosition 176 = .ok (.invokevirtual 257, 3) := by decide +kernel
theorem dX12_readPosition_179 : decode cX12_readPosition 179 = .ok (.ifCond .eq 16, 3) := by decide +kernel
theorem dX12_readPosition_182 : decode cX12_readPosition 182 = .ok (.aload_n 0, 1) := by decide +kernel
theorem dX12_readPosition_183 : decode cX12_readPosition 183 = .ok (.bipush 32, 2) := by decide +kernel
theorem dX12_readPosition_185 : decode cX12_readPosition 185 = .ok (.invokevirtual 243, 3) := by decide +kernel
theorem dX12_readPosition_188 : decode cX12_readPosition 188 = .ok (.ifCond .eq 7, 3) := by decide +kernel
theorem dX12_readPosition_191 : decode cX12_readPosition 191 = .ok (.iconst 1, 1) := by decide +kernel
theorem dX12_readPosition_192 : decode cX12_readPosition 192 = .ok (.goto 4, 3) := by decide +kernel
theorem dX12_readPosition_195 : decode cX12_readPosition 195 = .ok (.iconst 0, 1) := by decide +kernel
theorem dX12_readPosition_196 : decode cX12_readPosition 196 = .ok (.istore_n 3, 1) := by decide +kernel
theorem dX12_readPosition_197 : decode cX12_readPosition 197 = .ok (.aload_n 0, 1) := by decide +kernel
theorem dX12_readPosition_198 : decode cX12_readPosition 198 = .ok (.iload_n 3, 1) := by decide +kernel
theorem dX12_readPosition_199 : decode cX12_readPosition 199 = .ok (.ifCond .eq 10, 3) := by decide +kernel
theorem dX12_readPosition_202 : decode cX12_readPosition 202 = .ok (.aload_n 0, 1) := by decide +kernel
theorem dX12_readPosition_203 : decode cX12_readPosition 203 = .ok (.invokevirtual 260, 3) := by decide +kernel
theorem dX12_readPosition_206 : decode cX12_readPosition 206 = .ok (.goto 4, 3) := by decide +kernel
theorem dX12_readPosition_209 : decode cX12_readPosition 209 = .ok (.iconst (-1), 1) := by decide +kernel
theorem dX12_readPosition_210 : decode cX12_readPosition 210 = .ok (.putfield 130, 3) := by decide +kernel
theorem dX12_readPosition_213 : decode cX12_readPosition 213 = .ok (.iload_n 3, 1) := by decide +kernel
theorem dX12_readPosition_214 : decode cX12_readPosition 214 = .ok (.ifCond .eq 23, 3) := by decide +kernel
theorem dX12_readPosition_217 : decode cX12_readPosition 217 = .ok (.aload_n 0, 1) := by decide +kernel
theorem dX12_readPosition_218 : decode cX12_readPosition 218 = .ok (.getfield 130, 3) := by decide +kernel
theorem dX12_readPosition_221 : decode cX12_readPosition 221 = .ok (.ifCond .lt 16, 3) := by decide +kernel
theorem dX12_readPosition_224 : decode cX12_readPosition 224 = .ok (.aload_n 0, 1) := by decide +kernel
theorem dX12_readPosition_225 : decode cX12_readPosition 225 = .ok (.bipush 32, 2) := by decide +kernel
theorem dX12_readPosition_227 : decode cX12_readPosition 227 = .ok (.invokevirtual 243, 3) := by decide +kernel
theorem dX12_readPosition_230 : decode cX12_readPosition 230 = .ok (.ifCond .eq 7, 3) := by decide +kernel
theorem dX12_readPosition_233 : decode cX12_readPosition 233 = .ok (.iconst 1, 1) := by decide +kernel
theorem dX12_readPosition_234 : decode cX12_readPosition 234 = .ok (.goto 4, 3) := by decide +kernel
theorem dX12_readPosition_237 : decode cX12_readPosition 237 = .ok (.iconst 0, 1) := by decide +kernel
theorem dX12_readPosition_238 : decode cX12_readPosition 238 = .ok (.istore_n 3, 1) := by decide +kernel
theorem dX12_readPosition_239 : decode cX12_readPosition 239 = .ok (.aload_n 0, 1) := by decide +kernel
theorem dX12_readPosition_240 : decode cX12_readPosition 240 = .ok (.iload_n 3, 1) := by decide +kernel
theorem dX12_readPosition_241 : decode cX12_readPosition 241 = .ok (.ifCond .eq 10, 3) := by decide +kernel
theorem dX12_readPosition_244 : decode cX12_readPosition 244 = .ok (.aload_n 0, 1) := by decide +kernel
theorem dX12_readPosition_245 : decode cX12_readPosition 245 = .ok (.invokevirtual 260, 3) := by decide +kernel
theorem dX12_readPosition_248 : decode cX12_readPosition 248 = .ok (.goto 4, 3) := by decide +kernel
theorem dX12_readPosition_251 : decode cX12_readPosition 251 = .ok (.iconst (-1), 1) := by decide +kernel
theorem dX12_readPosition_252 : decode cX12_readPosition 252 = .ok (.putfield 133, 3) := by decide +kernel
theorem dX12_readPosition_255 : decode cX12_readPosition 255 = .ok (.iload_n 3, 1) := by decide +kernel
theorem dX12_readPosition_256 : decode cX12_readPosition 256 = .ok (.ifCond .eq 32, 3) := by decide +kernel
theorem dX12_readPosition_259 : decode cX12_readPosition 259 = .ok (.aload_n 0, 1) := by decide +kernel
theorem dX12_readPosition_260 : decode cX12_readPosition 260 = .ok (.getfield 133, 3) := by decide +kernel
theorem dX12_readPosition_263 : decode cX12_readPosition 263 = .ok (.ifCond .le 25, 3) := by decide +kernel
theorem dX12_readPosition_266 : decode cX12_readPosition 266 = .ok (.aload_n 0, 1) := by decide +kernel
theorem dX12_readPosition_267 : decode cX12_readPosition 267 = .ok (.getfield 229, 3) := by decide +kernel
theorem dX12_readPosition_270 : decode cX12_readPosition 270 = .ok (.aload_n 0, 1) := by decide +kernel
theorem dX12_readPosition_271 : decode cX12_readPosition 271 = .ok (.getfield 232, 3) := by decide +kernel
theorem dX12_readPosition_274 : decode cX12_readPosition 274 = .ok (.if_icmp .ne 14, 3) := by decide +kernel
theorem dX12_readPosition_277 : decode cX12_readPosition 277 = .ok (.aload_n 0, 1) := by decide +kernel
theorem dX12_readPosition_278 : decode cX12_readPosition 278 = .ok (.invokevirtual 264, 3) := by decide +kernel
theorem dX12_readPosition_281 : decode cX12_readPosition 281 = .ok (.ifCond .eq 7, 3) := by decide +kernel
theorem dX12_readPosition_284 : decode cX12_readPosition 284 = .ok (.iconst 1, 1) := by decide +kernel
theorem dX12_readPosition_285 : decode cX12_readPosition 285 = .ok (.goto 4, 3) := by decide +kernel
theorem dX12_readPosition_288 : decode cX12_readPosition 288 = .ok (.iconst 0, 1) := by decide +kernel
theorem dX12_readPosition_289 : decode cX12_readPosition 289 = .ok (.ireturn, 1) := by decide +kernel
theorem dX12_look_0 : decode cX12_look 0 = .ok (.aload_n 0, 1) := by decide +kernel
theorem dX12_look_1 : decode cX12_look 1 = .ok (.getfield 267, 3) := by decide +kernel
theorem dX12_look_4 : decode cX12_look 4 = .ok (.aload_n 0, 1) := by decide +kernel
theorem dX12_look_5 : decode cX12_look 5 = .ok (.getfield 270, 3) := by decide +kernel
theorem dX12_look_8 : decode cX12_look 8 = .ok (.if_icmp .ge 15, 3) := by decide +kernel
theorem dX12_look_11 : decode cX12_look 11 = .ok (.aload_n 0, 1) := by decide +kernel
theorem dX12_look_12 : decode cX12_look 12 = .ok (.getfield 7, 3) := by decide +kernel
theorem dX12_look_15 : decode cX12_look 15 = .ok (.aload_n 0, 1) := by decide +kernel
theorem dX12_look_16 : decode cX12_look 16 = .ok (.getfield 267, 3) := by decide +kernel
theorem dX12_look_19 : decode cX12_look 19 = .ok (.caload, 1) := by decide +kernel
theorem dX12_look_20 : decode cX12_look 20 = .ok (.goto 4, 3) := by decide +kernel
theorem dX12_look_23 : decode cX12_look 23 = .ok (.iconst 0, 1) := by decide +kernel
theorem dX12_look_24 : decode cX12_look 24 = .ok (.ireturn, 1) := by decide +kernel
theorem dX12_blanks_0 : decode cX12_blanks 0 = .ok (.aload_n 0, 1) := by decide +kernel
theorem dX12_blanks_1 : decode cX12_blanks 1 = .ok (.getfield 267, 3) := by decide +kernel
theorem dX12_blanks_4 : decode cX12_blanks 4 = .ok (.aload_n 0, 1) := by decide +kernel
theorem dX12_blanks_5 : decode cX12_blanks 5 = .ok (.getfield 270, 3) := by decide +kernel
theorem dX12_blanks_8 : decode cX12_blanks 8 = .ok (.if_icmp .ge 44, 3) := by decide +kernel
theorem dX12_blanks_11 : decode cX12_blanks 11 = .ok (.aload_n 0, 1) := by decide +kernel
theorem dX12_blanks_12 : decode cX12_blanks 12 = .ok (.getfield 7, 3) := by decide +kernel
theorem dX12_blanks_15 : decode cX12_blanks 15 = .ok (.aload_n 0, 1) := by decide +kernel
theorem dX12_blanks_16 : decode cX12_blanks 16 = .ok (.getfield 267, 3) := by decide +kernel
theorem dX12_blanks_19 : decode cX12_blanks 19 = .ok (.caload, 1) := by decide +kernel
theorem dX12_blanks_20 : decode cX12_blanks 20 = .ok (.bipush 32, 2) := by decide +kernel
theorem dX12_blanks_22 : decode cX12_blanks 22 = .ok (.if_icmp .eq 17, 3) := by decide +kernel
theorem dX12_blanks_25 : decode cX12_blanks 25 = .ok (.aload_n 0, 1) := by decide +kernel
theorem dX12_blanks_26 : decode cX12_blanks 26 = .ok (.getfield 7, 3) := by decide +kernel
theorem dX12_blanks_29 : decode cX12_blanks 29 = .ok (.aload_n 0, 1) := by decide +kernel
theorem dX12_blanks_30 : decode cX12_blanks 30 = .ok (.getfield 267, 3) := by decide +kernel
theorem dX12_blanks_33 : decode cX12_blanks 33 = .ok (.caload, 1) := by decide +kernel
theorem dX12_blanks_34 : decode cX12_blanks 34 = .ok (.bipush 10, 2) := by decide +kernel
theorem dX12_blanks_36 : decode cX12_blanks 36 = .ok (.if_icmp .ne 16, 3) := by decide +kernel
theorem dX12_blanks_39 : decode cX12_blanks 39 = .ok (.aload_n 0, 1) := by decide +kernel
theorem dX12_blanks_40 : decode cX12_blanks 40 = .ok (.dup, 1) := by decide +kernel
theorem dX12_blanks_41 : decode cX12_blanks 41 = .ok (.getfield 267, 3) := by decide +kernel
theorem dX12_blanks_44 : decode cX12_blanks 44 = .ok (.iconst 1, 1) := by decide +kernel
theorem dX12_blanks_45 : decode cX12_blanks 45 = .ok (.iadd, 1) := by decide +kernel
theorem dX12_blanks_46 : decode cX12_blanks 46 = .ok (.putfield 267, 3) := by decide +kernel
theorem dX12_blanks_49 : decode cX12_blanks 49 = .ok (.goto (-49), 3) := by decide +kernel
theorem dX12_blanks_52 : decode cX12_blanks 52 = .ok (.return_, 1) := by decide +kernel
theorem dX12_fault_0 : decode cX12_fault 0 = .ok (.sipush 10000, 3) := by decide +kernel
theorem dX12_fault_3 : decode cX12_fault 3 = .ok (.iload_n 0, 1) := by decide +kernel
theorem dX12_fault_4 : decode cX12_fault 4 = .ok (.imul, 1) := by decide +kernel
theorem dX12_fault_5 : decode cX12_fault 5 = .ok (.iload_n 1, 1) := by decide +kernel
theorem dX12_fault_6 : decode cX12_fault 6 = .ok (.iadd, 1) := by decide +kernel
theorem dX12_fault_7 : decode cX12_fault 7 = .ok (.ireturn, 1) := by decide +kernel
theorem dX12_isLetter_0 : decode cX12_isLetter 0 = .ok (.iload_n 0, 1) := by decide +kernel
theorem dX12_isLetter_1 : decode cX12_isLetter 1 = .ok (.bipush 97, 2) := by decide +kernel
theorem dX12_isLetter_3 : decode cX12_isLetter 3 = .ok (.if_icmp .lt 9, 3) := by decide +kernel
theorem dX12_isLetter_6 : decode cX12_isLetter 6 = .ok (.iload_n 0, 1) := by decide +kernel
theorem dX12_isLetter_7 : decode cX12_isLetter 7 = .ok (.bipush 122, 2) := by decide +kernel
theorem dX12_isLetter_9 : decode cX12_isLetter 9 = .ok (.if_icmp .le 15, 3) := by decide +kernel
theorem dX12_isLetter_12 : decode cX12_isLetter 12 = .ok (.iload_n 0, 1) := by decide +kernel
theorem dX12_isLetter_13 : decode cX12_isLetter 13 = .ok (.bipush 65, 2) := by decide +kernel
theorem dX12_isLetter_15 : decode cX12_isLetter 15 = .ok (.if_icmp .lt 13, 3) := by decide +kernel
theorem dX12_isLetter_18 : decode cX12_isLetter 18 = .ok (.iload_n 0, 1) := by decide +kernel
theorem dX12_isLetter_19 : decode cX12_isLetter 19 = .ok (.bipush 90, 2) := by decide +kernel
theorem dX12_isLetter_21 : decode cX12_isLetter 21 = .ok (.if_icmp .gt 7, 3) := by decide +kernel
theorem dX12_isLetter_24 : decode cX12_isLetter 24 = .ok (.iconst 1, 1) := by decide +kernel
theorem dX12_isLetter_25 : decode cX12_isLetter 25 = .ok (.goto 4, 3) := by decide +kernel
theorem dX12_isLetter_28 : decode cX12_isLetter 28 = .ok (.iconst 0, 1) := by decide +kernel
theorem dX12_isLetter_29 : decode cX12_isLetter 29 = .ok (.ireturn, 1) := by decide +kernel
theorem dX12_isDigit_0 : decode cX12_isDigit 0 = .ok (.iload_n 0, 1) := by decide +kernel
theorem dX12_isDigit_1 : decode cX12_isDigit 1 = .ok (.bipush 48, 2) := by decide +kernel
theorem dX12_isDigit_3 : decode cX12_isDigit 3 = .ok (.if_icmp .lt 13, 3) := by decide +kernel
theorem dX12_isDigit_6 : decode cX12_isDigit 6 = .ok (.iload_n 0, 1) := by decide +kernel
theorem dX12_isDigit_7 : decode cX12_isDigit 7 = .ok (.bipush 57, 2) := by decide +kernel
theorem dX12_isDigit_9 : decode cX12_isDigit 9 = .ok (.if_icmp .gt 7, 3) := by decide +kernel
theorem dX12_isDigit_12 : decode cX12_isDigit 12 = .ok (.iconst 1, 1) := by decide +kernel
theorem dX12_isDigit_13 : decode cX12_isDigit 13 = .ok (.goto 4, 3) := by decide +kernel
theorem dX12_isDigit_16 : decode cX12_isDigit 16 = .ok (.iconst 0, 1) := by decide +kernel
theorem dX12_isDigit_17 : decode cX12_isDigit 17 = .ok (.ireturn, 1) := by decide +kernel
theorem dX12_isTag_0 : decode cX12_isTag 0 = .ok (.iload_n 3, 1) := by decide +kernel
theorem dX12_isTag_1 : decode cX12_isTag 1 = .ok (.ifCond .ne 7, 3) := by decide +kernel
theorem dX12_isTag_4 : decode cX12_isTag 4 = .ok (.iconst 3, 1) := by decide +kernel
theorem dX12_isTag_5 : decode cX12_isTag 5 = .ok (.goto 5, 3) := by decide +kernel
theorem dX12_isTag_8 : decode cX12_isTag 8 = .ok (.bipush 6, 2) := by decide +kernel
theorem dX12_isTag_10 : decode cX12_isTag 10 = .ok (.istore 4, 2) := by decide +kernel
theorem dX12_isTag_12 : decode cX12_isTag 12 = .ok (.aload_n 0, 1) := by decide +kernel
theorem dX12_isTag_13 : decode cX12_isTag 13 = .ok (.getfield 55, 3) := by decide +kernel
theorem dX12_isTag_16 : decode cX12_isTag 16 = .ok (.bipush 8, 2) := by decide +kernel
theorem dX12_isTag_18 : decode cX12_isTag 18 = .ok (.iload_n 2, 1) := by decide +kernel
theorem dX12_isTag_19 : decode cX12_isTag 19 = .ok (.imul, 1) := by decide +kernel
theorem dX12_isTag_20 : decode cX12_isTag 20 = .ok (.iload_n 1, 1) := by decide +kernel
theorem dX12_isTag_21 : decode cX12_isTag 21 = .ok (.iadd, 1) := by decide +kernel
theorem dX12_isTag_22 : decode cX12_isTag 22 = .ok (.iaload, 1) := by decide +kernel
theorem dX12_isTag_23 : decode cX12_isTag 23 = .ok (.iload 4, 2) := by decide +kernel
theorem dX12_isTag_25 : decode cX12_isTag 25 = .ok (.if_icmp .ne 7, 3) := by decide +kernel
theorem dX12_isTag_28 : decode cX12_isTag 28 = .ok (.iconst 1, 1) := by decide +kernel
theorem dX12_isTag_29 : decode cX12_isTag 29 = .ok (.goto 4, 3) := by decide +kernel
theorem dX12_isTag_32 : decode cX12_isTag 32 = .ok (.iconst 0, 1) := by decide +kernel
theorem dX12_isTag_33 : decode cX12_isTag 33 = .ok (.istore 5, 2) := by decide +kernel
theorem dX12_isTag_35 : decode cX12_isTag 35 = .ok (.iconst 0, 1) := by decide +kernel
theorem dX12_isTag_36 : decode cX12_isTag 36 = .ok (.istore 6, 2) := by decide +kernel
theorem dX12_isTag_38 : decode cX12_isTag 38 = .ok (.iload 6, 2) := by decide +kernel
theorem dX12_isTag_40 : decode cX12_isTag 40 = .ok (.iload 4, 2) := by decide +kernel
theorem dX12_isTag_42 : decode cX12_isTag 42 = .ok (.if_icmp .ge 131, 3) := by decide +kernel
theorem dX12_isTag_45 : decode cX12_isTag 45 = .ok (.iload 5, 2) := by decide +kernel
theorem dX12_isTag_47 : decode cX12_isTag 47 = .ok (.ifCond .eq 126, 3) := by decide +kernel
theorem dX12_isTag_50 : decode cX12_isTag 50 = .ok (.iload_n 3, 1) := by decide +kernel
theorem dX12_isTag_51 : decode cX12_isTag 51 = .ok (.ifCond .ne 29, 3) := by decide +kernel
theorem dX12_isTag_54 : decode cX12_isTag 54 = .ok (.iload 6, 2) := by decide +kernel
theorem dX12_isTag_56 : decode cX12_isTag 56 = .ok (.ifCond .ne 8, 3) := by decide +kernel
theorem dX12_isTag_59 : decode cX12_isTag 59 = .ok (.bipush 70, 2) := by decide +kernel
theorem dX12_isTag_61 : decode cX12_isTag 61 = .ok (.goto 75, 3) := by decide +kernel
theorem dX12_isTag_64 : decode cX12_isTag 64 = .ok (.iload 6, 2) := by decide +kernel
theorem dX12_isTag_66 : decode cX12_isTag 66 = .ok (.iconst 1, 1) := by decide +kernel
theorem dX12_isTag_67 : decode cX12_isTag 67 = .ok (.if_icmp .ne 8, 3) := by decide +kernel
theorem dX12_isTag_70 : decode cX12_isTag 70 = .ok (.bipush 69, 2) := by decide +kernel
theorem dX12_isTag_72 : decode cX12_isTag 72 = .ok (.goto 64, 3) := by decide +kernel
theorem dX12_isTag_75 : decode cX12_isTag 75 = .ok (.bipush 78, 2) := by decide +kernel
theorem dX12_isTag_77 : decode cX12_isTag 77 = .ok (.goto 59, 3) := by decide +kernel
theorem dX12_isTag_80 : decode cX12_isTag 80 = .ok (.iload 6, 2) := by decide +kernel
theorem dX12_isTag_82 : decode cX12_isTag 82 = .ok (.ifCond .ne 8, 3) := by decide +kernel
theorem dX12_isTag_85 : decode cX12_isTag 85 = .ok (.bipush 82, 2) := by decide +kernel
theorem dX12_isTag_87 : decode cX12_isTag 87 = .ok (.goto 49, 3) := by decide +kernel
theorem dX12_isTag_90 : decode cX12_isTag 90 = .ok (.iload 6, 2) := by decide +kernel
theorem dX12_isTag_92 : decode cX12_isTag 92 = .ok (.iconst 1, 1) := by decide +kernel
theorem dX12_isTag_93 : decode cX12_isTag 93 = .ok (.if_icmp .ne 8, 3) := by decide +kernel
theorem dX12_isTag_96 : decode cX12_isTag 96 = .ok (.bipush 101, 2) := by decide +kernel
theorem dX12_isTag_98 : decode cX12_isTag 98 = .ok (.goto 38, 3) := by decide +kernel
theorem dX12_isTag_101 : decode cX12_isTag 101 = .ok (.iload 6, 2) := by decide +kernel
theorem dX12_isTag_103 : decode cX12_isTag 103 = .ok (.iconst 2, 1) := by decide +kernel
theorem dX12_isTag_104 : decode cX12_isTag 104 = .ok (.if_icmp .ne 8, 3) := by decide +kernel
theorem dX12_isTag_107 : decode cX12_isTag 107 = .ok (.bipush 115, 2) := by decide +kernel
theorem dX12_isTag_109 : decode cX12_isTag 109 = .ok (.goto 27, 3) := by decide +kernel
theorem dX12_isTag_112 : decode cX12_isTag 112 = .ok (.iload 6, 2) := by decide +kernel
theorem dX12_isTag_114 : decode cX12_isTag 114 = .ok (.iconst 3, 1) := by decide +kernel
theorem dX12_isTag_115 : decode cX12_isTag 115 = .ok (.if_icmp .ne 8, 3) := by decide +kernel
theorem dX12_isTag_118 : decode cX12_isTag 118 = .ok (.bipush 117, 2) := by decide +kernel
theorem dX12_isTag_120 : decode cX12_isTag 120 = .ok (.goto 16, 3) := by decide +kernel
theorem dX12_isTag_123 : decode cX12_isTag 123 = .ok (.iload 6, 2) := by decide +kernel
theorem dX12_isTag_125 : decode cX12_isTag 125 = .ok (.iconst 4, 1) := by decide +kernel
theorem dX12_isTag_126 : decode cX12_isTag 126 = .ok (.if_icmp .ne 8, 3) := by decide +kernel
theorem dX12_isTag_129 : decode cX12_isTag 129 = .ok (.bipush 108, 2) := by decide +kernel
theorem dX12_isTag_131 : decode cX12_isTag 131 = .ok (.goto 5, 3) := by decide +kernel
theorem dX12_isTag_134 : decode cX12_isTag 134 = .ok (.bipush 116, 2) := by decide +kernel
theorem dX12_isTag_136 : decode cX12_isTag 136 = .ok (.istore 7, 2) := by decide +kernel
theorem dX12_isTag_138 : decode cX12_isTag 138 = .ok (.aload_n 0, 1) := by decide +kernel
theorem dX12_isTag_139 : decode cX12_isTag 139 = .ok (.getfield 58, 3) := by decide +kernel
theorem dX12_isTag_142 : decode cX12_isTag 142 = .ok (.bipush 96, 2) := by decide +kernel
theorem dX12_isTag_144 : decode cX12_isTag 144 = .ok (.iload_n 2, 1) := by decide +kernel
theorem dX12_isTag_145 : decode cX12_isTag 145 = .ok (.imul, 1) := by decide +kernel
theorem dX12_isTag_146 : decode cX12_isTag 146 = .ok (.bipush 12, 2) := by decide +kernel
theorem dX12_isTag_148 : decode cX12_isTag 148 = .ok (.iload_n 1, 1) := by decide +kernel
theorem dX12_isTag_149 : decode cX12_isTag 149 = .ok (.imul, 1) := by decide +kernel
theorem dX12_isTag_150 : decode cX12_isTag 150 = .ok (.iadd, 1) := by decide +kernel
theorem dX12_isTag_151 : decode cX12_isTag 151 = .ok (.iload 6, 2) := by decide +kernel
theorem dX12_isTag_153 : decode cX12_isTag 153 = .ok (.iadd, 1) := by decide +kernel
theorem dX12_isTag_154 : decode cX12_isTag 154 = .ok (.caload, 1) := by decide +kernel
theorem dX12_isTag_155 : decode cX12_isTag 155 = .ok (.iload 7, 2) := by decide +kernel
theorem dX12_isTag_157 : decode cX12_isTag 157 = .ok (.if_icmp .ne 7, 3) := by decide +kernel
theorem dX12_isTag_160 : decode cX12_isTag 160 = .ok (.iconst 1, 1) := by decide +kernel
theorem dX12_isTag_161 : decode cX12_isTag 161 = .ok (.goto 4, 3) := by decide +kernel
theorem dX12_isTag_164 : decode cX12_isTag 164 = .ok (.iconst 0, 1) := by decide +kernel
theorem dX12_isTag_165 : decode cX12_isTag 165 = .ok (.istore 5, 2) := by decide +kernel
theorem dX12_isTag_167 : decode cX12_isTag 167 = .ok (.iinc 6 1, 3) := by decide +kernel
theorem dX12_isTag_170 : decode cX12_isTag 170 = .ok (.goto (-132), 3) := by decide +kernel
theorem dX12_isTag_173 : decode cX12_isTag 173 = .ok (.iload 5, 2) := by decide +kernel
theorem dX12_isTag_175 : decode cX12_isTag 175 = .ok (.ireturn, 1) := by decide +kernel
theorem dX12_isNameThere_0 : decode cX12_isNameThere 0 = .ok (.iconst 0, 1) := by decide +kernel
theorem dX12_isNameThere_1 : decode cX12_isNameThere 1 = .ok (.istore_n 3, 1) := by decide +kernel
theorem dX12_isNameThere_2 : decode cX12_isNameThere 2 = .ok (.iconst 0, 1) := by decide +kernel
theorem dX12_isNameThere_3 : decode cX12_isNameThere 3 = .ok (.istore 4, 2) := by decide +kernel
theorem dX12_isNameThere_5 : decode cX12_isNameThere 5 = .ok (.iload 4, 2) := by decide +kernel
theorem dX12_isNameThere_7 : decode cX12_isNameThere 7 = .ok (.iload_n 2, 1) := by decide +kernel
theorem dX12_isNameThere_8 : decode cX12_isNameThere 8 = .ok (.if_icmp .ge 132, 3) := by decide +kernel
theorem dX12_isNameThere_11 : decode cX12_isNameThere 11 = .ok (.aload_n 0, 1) := by decide +kernel
theorem dX12_isNameThere_12 : decode cX12_isNameThere 12 = .ok (.getfield 55, 3) := by decide +kernel
theorem dX12_isNameThere_15 : decode cX12_isNameThere 15 = .ok (.bipush 8, 2) := by decide +kernel
theorem dX12_isNameThere_17 : decode cX12_isNameThere 17 = .ok (.iload_n 1, 1) := by decide +kernel
theorem dX12_isNameThere_18 : decode cX12_isNameThere 18 = .ok (.imul, 1) := by decide +kernel
theorem dX12_isNameThere_19 : decode cX12_isNameThere 19 = .ok (.iload 4, 2) := by decide +kernel
theorem dX12_isNameThere_21 : decode cX12_isNameThere 21 = .ok (.iadd, 1) := by decide +kernel
theorem dX12_isNameThere_22 : decode cX12_isNameThere 22 = .ok (.iaload, 1) := by decide +kernel
theorem dX12_isNameThere_23 : decode cX12_isNameThere 23 = .ok (.aload_n 0, 1) := by decide +kernel
theorem dX12_isNameThere_24 : decode cX12_isNameThere 24 = .ok (.getfield 55, 3) := by decide +kernel
theorem dX12_isNameThere_27 : decode cX12_isNameThere 27 = .ok (.bipush 8, 2) := by decide +kernel
theorem dX12_isNameThere_29 : decode cX12_isNameThere 29 = .ok (.iload_n 1, 1) := by decide +kernel
theorem dX12_isNameThere_30 : decode cX12_isNameThere 30 = .ok (.imul, 1) := by decide +kernel
theorem dX12_isNameThere_31 : decode cX12_isNameThere 31 = .ok (.iload_n 2, 1) := by decide +kernel
theorem dX12_isNameThere_32 : decode cX12_isNameThere 32 = .ok (.iadd, 1) := by decide +kernel
theorem dX12_isNameThere_33 : decode cX12_isNameThere 33 = .ok (.iaload, 1) := by decide +kernel
theorem dX12_isNameThere_34 : decode cX12_isNameThere 34 = .ok (.if_icmp .ne 7, 3) := by decide +kernel
theorem dX12_isNameThere_37 : decode cX12_isNameThere 37 = .ok (.iconst 1, 1) := by decide +kernel
theorem dX12_isNameThere_38 : decode cX12_isNameThere 38 = .ok (.goto 4, 3) := by decide +kernel
theorem dX12_isNameThere_41 : decode cX12_isNameThere 41 = .ok (.iconst 0, 1) := by decide +kernel
theorem dX12_isNameThere_42 : decode cX12_isNameThere 42 = .ok (.istore 5, 2) := by decide +kernel
theorem dX12_isNameThere_44 : decode cX12_isNameThere 44 = .ok (.iconst 0, 1) := by decide +kernel
theorem dX12_isNameThere_45 : decode cX12_isNameThere 45 = .ok (.istore 6, 2) := by decide +kernel
theorem dX12_isNameThere_47 : decode cX12_isNameThere 47 = .ok (.iload 6, 2) := by decide +kernel
theorem dX12_isNameThere_49 : decode cX12_isNameThere 49 = .ok (.aload_n 0, 1) := by decide +kernel
theorem dX12_isNameThere_50 : decode cX12_isNameThere 50 = .ok (.getfield 55, 3) := by decide +kernel
theorem dX12_isNameThere_53 : decode cX12_isNameThere 53 = .ok (.bipush 8, 2) := by decide +kernel
theorem dX12_isNameThere_55 : decode cX12_isNameThere 55 = .ok (.iload_n 1, 1) := by decide +kernel
theorem dX12_isNameThere_56 : decode cX12_isNameThere 56 = .ok (.imul, 1) := by decide +kernel
theorem dX12_isNameThere_57 : decode cX12_isNameThere 57 = .ok (.iload_n 2, 1) := by decide +kernel
theorem dX12_isNameThere_58 : decode cX12_isNameThere 58 = .ok (.iadd, 1) := by decide +kernel
theorem dX12_isNameThere_59 : decode cX12_isNameThere 59 = .ok (.iaload, 1) := by decide +kernel
theorem dX12_isNameThere_60 : decode cX12_isNameThere 60 = .ok (.if_icmp .ge 59, 3) := by decide +kernel
theorem dX12_isNameThere_63 : decode cX12_isNameThere 63 = .ok (.iload 5, 2) := by decide +kernel
theorem dX12_isNameThere_65 : decode cX12_isNameThere 65 = .ok (.ifCond .eq 54, 3) := by decide +kernel
theorem dX12_isNameThere_68 : decode cX12_isNameThere 68 = .ok (.aload_n 0, 1) := by decide +kernel
theorem dX12_isNameThere_69 : decode cX12_isNameThere 69 = .ok (.getfield 58, 3) := by decide +kernel
theorem dX12_isNameThere_72 : decode cX12_isNameThere 72 = .ok (.bipush 96, 2) := by decide +kernel
theorem dX12_isNameThere_74 : decode cX12_isNameThere 74 = .ok (.iload_n 1, 1) := by decide +kernel
theorem dX12_isNameThere_75 : decode cX12_isNameThere 75 = .ok (.imul, 1) := by decide +kernel
theorem dX12_isNameThere_76 : decode cX12_isNameThere 76 = .ok (.bipush 12, 2) := by decide +kernel
theorem dX12_isNameThere_78 : decode cX12_isNameThere 78 = .ok (.iload 4, 2) := by decide +kernel
theorem dX12_isNameThere_80 : decode cX12_isNameThere 80 = .ok (.imul, 1) := by decide +kernel
theorem dX12_isNameThere_81 : decode cX12_isNameThere 81 = .ok (.iadd, 1) := by decide +kernel
theorem dX12_isNameThere_82 : decode cX12_isNameThere 82 = .ok (.iload 6, 2) := by decide +kernel
theorem dX12_isNameThere_84 : decode cX12_isNameThere 84 = .ok (.iadd, 1) := by decide +kernel
theorem dX12_isNameThere_85 : decode cX12_isNameThere 85 = .ok (.caload, 1) := by decide +kernel
theorem dX12_isNameThere_86 : decode cX12_isNameThere 86 = .ok (.aload_n 0, 1) := by decide +kernel
theorem dX12_isNameThere_87 : decode cX12_isNameThere 87 = .ok (.getfield 58, 3) := by decide +kernel
theorem dX12_isNameThere_90 : decode cX12_isNameThere 90 = .ok (.bipush 96, 2) := by decide +kernel
theorem dX12_isNameThere_92 : decode cX12_isNameThere 92 = .ok (.iload_n 1, 1) := by decide +kernel
theorem dX12_isNameThere_93 : decode cX12_isNameThere 93 = .ok (.imul, 1) := by decide +kernel
theorem dX12_isNameThere_94 : decode cX12_isNameThere 94 = .ok (.bipush 12, 2) := by decide +kernel
theorem dX12_isNameThere_96 : decode cX12_isNameThere 96 = .ok (.iload_n 2, 1) := by decide +kernel
theorem dX12_isNameThere_97 : decode cX12_isNameThere 97 = .ok (.imul, 1) := by decide +kernel
theorem dX12_isNameThere_98 : decode cX12_isNameThere 98 = .ok (.iadd, 1) := by decide +kernel
theorem dX12_isNameThere_99 : decode cX12_isNameThere 99 = .ok (.iload 6, 2) := by decide +kernel
theorem dX12_isNameThere_101 : decode cX12_isNameThere 101 = .ok (.iadd, 1) := by decide +kernel
theorem dX12_isNameThere_102 : decode cX12_isNameThere 102 = .ok (.caload, 1) := by decide +kernel
theorem dX12_isNameThere_103 : decode cX12_isNameThere 103 = .ok (.if_icmp .ne 7, 3) := by decide +kernel
theorem dX12_isNameThere_106 : decode cX12_isNameThere 106 = .ok (.iconst 1, 1) := by decide +kernel
theorem dX12_isNameThere_107 : decode cX12_isNameThere 107 = .ok (.goto 4, 3) := by decide +kernel
theorem dX12_isNameThere_110 : decode cX12_isNameThere 110 = .ok (.iconst 0, 1) := by decide +kernel
theorem dX12_isNameThere_111 : decode cX12_isNameThere 111 = .ok (.istore 5, 2) := by decide +kernel
theorem dX12_isNameThere_113 : decode cX12_isNameThere 113 = .ok (.iinc 6 1, 3) := by decide +kernel
theorem dX12_isNameThere_116 : decode cX12_isNameThere 116 = .ok (.goto (-69), 3) := by decide +kernel
theorem dX12_isNameThere_119 : decode cX12_isNameThere 119 = .ok (.iload_n 3, 1) := by decide +kernel
theorem dX12_isNameThere_120 : decode cX12_isNameThere 120 = .ok (.ifCond .ne 8, 3) := by decide +kernel
theorem dX12_isNameThere_123 : decode cX12_isNameThere 123 = .ok (.iload 5, 2) := by decide +kernel
theorem dX12_isNameThere_125 : decode cX12_isNameThere 125 = .ok (.ifCond .eq 7, 3) := by decide +kernel
theorem dX12_isNameThere_128 : decode cX12_isNameThere 128 = .ok (.iconst 1, 1) := by decide +kernel
theorem dX12_isNameThere_129 : decode cX12_isNameThere 129 = .ok (.goto 4, 3) := by decide +kernel
theorem dX12_isNameThere_132 : decode cX12_isNameThere 132 = .ok (.iconst 0, 1) := by decide +kernel
theorem dX12_isNameThere_133 : decode cX12_isNameThere 133 = .ok (.istore_n 3, 1) := by decide +kernel
theorem dX12_isNameThere_134 : decode cX12_isNameThere 134 = .ok (.iinc 4 1, 3) := by decide +kernel
theorem dX12_isNameThere_137 : decode cX12_isNameThere 137 = .ok (.goto (-132), 3) := by decide +kernel
theorem dX12_isNameThere_140 : decode cX12_isNameThere 140 = .ok (.iload_n 3, 1) := by decide +kernel
theorem dX12_isNameThere_141 : decode cX12_isNameThere 141 = .ok (.ireturn, 1) := by decide +kernel
theorem dX12_readTag_0 : decode cX12_readTag 0 = .ok (.aload_n 0, 1) := by decide +kernel
theorem dX12_readTag_1 : decode cX12_readTag 1 = .ok (.getfield 267, 3) := by decide +kernel
theorem dX12_readTag_4 : decode cX12_readTag 4 = .ok (.istore_n 2, 1) := by decide +kernel
theorem dX12_readTag_5 : decode cX12_readTag 5 = .ok (.aload_n 0, 1) := by decide +kernel
theorem dX12_readTag_6 : decode cX12_readTag 6 = .ok (.getfield 52, 3) := by decide +kernel
theorem dX12_readTag_9 : decode cX12_readTag 9 = .ok (.iload_n 1, 1) := by decide +kernel
theorem dX12_readTag_10 : decode cX12_readTag 10 = .ok (.iaload, 1) := by decide +kernel
theorem dX12_readTag_11 : decode cX12_readTag 11 = .ok (.istore_n 3, 1) := by decide +kernel
theorem dX12_readTag_12 : decode cX12_readTag 12 = .ok (.iload_n 3, 1) := by decide +kernel
theorem dX12_readTag_13 : decode cX12_readTag 13 = .ok (.bipush 8, 2) := by decide +kernel
theorem dX12_readTag_15 : decode cX12_readTag 15 = .ok (.if_icmp .ne 7, 3) := by decide +kernel
theorem dX12_readTag_18 : decode cX12_readTag 18 = .ok (.iconst 1, 1) := by decide +kernel
theorem dX12_readTag_19 : decode cX12_readTag 19 = .ok (.goto 4, 3) := by decide +kernel
theorem dX12_readTag_22 : decode cX12_readTag 22 = .ok (.iconst 0, 1) := by decide +kernel
theorem dX12_readTag_23 : decode cX12_readTag 23 = .ok (.istore 4, 2) := by decide +kernel
theorem dX12_readTag_25 : decode cX12_readTag 25 = .ok (.iconst 0, 1) := by decide +kernel
theorem dX12_readTag_26 : decode cX12_readTag 26 = .ok (.istore 5, 2) := by decide +kernel
theorem dX12_readTag_28 : decode cX12_readTag 28 = .ok (.aload_n 0, 1) := by decide +kernel
theorem dX12_readTag_29 : decode cX12_readTag 29 = .ok (.dup, 1) := by decide +kernel
theorem dX12_readTag_30 : decode cX12_readTag 30 = .ok (.getfield 267, 3) := by decide +kernel
theorem dX12_readTag_33 : decode cX12_readTag 33 = .ok (.iconst 1, 1) := by decide +kernel
theorem dX12_readTag_34 : decode cX12_readTag 34 = .ok (.iadd, 1) := by decide +kernel
theorem dX12_readTag_35 : decode cX12_readTag 35 = .ok (.putfield 267, 3) := by decide +kernel
theorem dX12_readTag_38 : decode cX12_readTag 38 = .ok (.aload_n 0, 1) := by decide +kernel
theorem dX12_readTag_39 : decode cX12_readTag 39 = .ok (.invokevirtual 273, 3) := by decide +kernel
theorem dX12_readTag_42 : decode cX12_readTag 42 = .ok (.aload_n 0, 1) := by decide +kernel
theorem dX12_readTag_43 : decode cX12_readTag 43 = .ok (.invokevirtual 276, 3) := by decide +kernel
theorem dX12_readTag_46 : decode cX12_readTag 46 = .ok (.invokestatic 279, 3) := by decide +kernel
theorem dX12_readTag_49 : decode cX12_readTag 49 = .ok (.ifCond .ne 22, 3) := by decide +kernel
theorem dX12_readTag_52 : decode cX12_readTag 52 = .ok (.aload_n 0, 1) := by decide +kernel
theorem dX12_readTag_53 : decode cX12_readTag 53 = .ok (.invokevirtual 276, 3) := by decide +kernel
theorem dX12_readTag_56 : decode cX12_readTag 56 = .ok (.invokestatic 282, 3) := by decide +kernel
theorem dX12_readTag_59 : decode cX12_readTag 59 = .ok (.ifCond .ne 12, 3) := by decide +kernel
theorem dX12_readTag_62 : decode cX12_readTag 62 = .ok (.iconst 1, 1) := by decide +kernel
theorem dX12_readTag_63 : decode cX12_readTag 63 = .ok (.aload_n 0, 1) := by decide +kernel
theorem dX12_readTag_64 : decode cX12_readTag 64 = .ok (.getfield 267, 3) := by decide +kernel
theorem dX12_readTag_67 : decode cX12_readTag 67 = .ok (.invokestatic 285, 3) := by decide +kernel
theorem dX12_readTag_70 : decode cX12_readTag 70 = .ok (.ireturn, 1) := by decide +kernel
theorem dX12_readTag_71 : decode cX12_readTag 71 = .ok (.aload_n 0, 1) := by decide +kernel
theorem dX12_readTag_72 : decode cX12_readTag 72 = .ok (.invokevirtual 276, 3) := by decide +kernel
theorem dX12_readTag_75 : decode cX12_readTag 75 = .ok (.invokestatic 279, 3) := by decide +kernel
theorem dX12_readTag_78 : decode cX12_readTag 78 = .ok (.ifCond .ne 13, 3) := by decide +kernel
theorem dX12_readTag_81 : decode cX12_readTag 81 = .ok (.aload_n 0, 1) := by decide +kernel
theorem dX12_readTag_82 : decode cX12_readTag 82 = .ok (.invokevirtual 276, 3) := by decide +kernel
theorem dX12_readTag_85 : decode cX12_readTag 85 = .ok (.invokestatic 282, 3) := by decide +kernel
theorem dX12_readTag_88 : decode cX12_readTag 88 = .ok (.ifCond .eq 52, 3) := by decide +kernel
theorem dX12_readTag_91 : decode cX12_readTag 91 = .ok (.iload 5, 2) := by decide +kernel
theorem dX12_readTag_93 : decode cX12_readTag 93 = .ok (.bipush 12, 2) := by decide +kernel
theorem dX12_readTag_95 : decode cX12_readTag 95 = .ok (.if_icmp .ge 29, 3) := by decide +kernel
theorem dX12_readTag_98 : decode cX12_readTag 98 = .ok (.iload 4, 2) := by decide +kernel
theorem dX12_readTag_100 : decode cX12_readTag 100 = .ok (.ifCond .ne 24, 3) := by decide +kernel
theorem dX12_readTag_103 : decode cX12_readTag 103 = .ok (.aload_n 0, 1) := by decide +kernel
theorem dX12_readTag_104 : decode cX12_readTag 104 = .ok (.getfield 58, 3) := by decide +kernel
theorem dX12_readTag_107 : decode cX12_readTag 107 = .ok (.bipush 96, 2) := by decide +kernel
theorem dX12_readTag_109 : decode cX12_readTag 109 = .ok (.iload_n 1, 1) := by decide +kernel
theorem dX12_readTag_110 : decode cX12_readTag 110 = .ok (.imul, 1) := by decide +kernel
theorem dX12_readTag_111 : decode cX12_readTag 111 = .ok (.bipush 12, 2) := by decide +kernel
theorem dX12_readTag_113 : decode cX12_readTag 113 = .ok (.iload_n 3, 1) := by decide +kernel
theorem dX12_readTag_114 : decode cX12_readTag 114 = .ok (.imul, 1) := by decide +kernel
theorem dX12_readTag_115 : decode cX12_readTag 115 = .ok (.iadd, 1) := by decide +kernel
theorem dX12_readTag_116 : decode cX12_readTag 116 = .ok (.iload 5, 2) := by decide +kernel
theorem dX12_readTag_118 : decode cX12_readTag 118 = .ok (.iadd, 1) := by decide +kernel
theorem dX12_readTag_119 : decode cX12_readTag 119 = .ok (.aload_n 0, 1) := by decide +kernel
theorem dX12_readTag_120 : decode cX12_readTag 120 = .ok (.invokevirtual 276, 3) := by decide +kernel
theorem dX12_readTag_123 : decode cX12_readTag 123 = .ok (.castore, 1) := by decide +kernel
theorem dX12_readTag_124 : decode cX12_readTag 124 = .ok (.iinc 5 1, 3) := by decide +kernel
theorem dX12_readTag_127 : decode cX12_readTag 127 = .ok (.aload_n 0, 1) := by decide +kernel
theorem dX12_readTag_128 : decode cX12_readTag 128 = .ok (.dup, 1) := by decide +kernel
theorem dX12_readTag_129 : decode cX12_readTag 129 = .ok (.getfield 267, 3) := by decide +kernel
theorem dX12_readTag_132 : decode cX12_readTag 132 = .ok (.iconst 1, 1) := by decide +kernel
theorem dX12_readTag_133 : decode cX12_readTag 133 = .ok (.iadd, 1) := by decide +kernel
theorem dX12_readTag_134 : decode cX12_readTag 134 = .ok (.putfield 267, 3) := by decide +kernel
theorem dX12_readTag_137 : decode cX12_readTag 137 = .ok (.goto (-66), 3) := by decide +kernel
theorem dX12_readTag_140 : decode cX12_readTag 140 = .ok (.aload_n 0, 1) := by decide +kernel
theorem dX12_readTag_141 : decode cX12_readTag 141 = .ok (.invokevirtual 273, 3) := by decide +kernel
theorem dX12_readTag_144 : decode cX12_readTag 144 = .ok (.aload_n 0, 1) := by decide +kernel
theorem dX12_readTag_145 : decode cX12_readTag 145 = .ok (.invokevirtual 276, 3) := by decide +kernel
theorem dX12_readTag_148 : decode cX12_readTag 148 = .ok (.bipush 34, 2) := by decide +kernel
theorem dX12_readTag_150 : decode cX12_readTag 150 = .ok (.if_icmp .eq 12, 3) := by decide +kernel
theorem dX12_readTag_153 : decode cX12_readTag 153 = .ok (.iconst 1, 1) := by decide +kernel
theorem dX12_readTag_154 : decode cX12_readTag 154 = .ok (.aload_n 0, 1) := by decide +kernel
theorem dX12_readTag_155 : decode cX12_readTag 155 = .ok (.getfield 267, 3) := by decide +kernel
theorem dX12_readTag_158 : decode cX12_readTag 158 = .ok (.invokestatic 285, 3) := by decide +kernel
theorem dX12_readTag_161 : decode cX12_readTag 161 = .ok (.ireturn, 1) := by decide +kernel
theorem dX12_readTag_162 : decode cX12_readTag 162 = .ok (.aload_n 0, 1) := by decide +kernel
theorem dX12_readTag_163 : decode cX12_readTag 163 = .ok (.dup, 1) := by decide +kernel
theorem dX12_readTag_164 : decode cX12_readTag 164 = .ok (.getfield 267, 3) := by decide +kernel
theorem dX12_readTag_167 : decode cX12_readTag 167 = .ok (.iconst 1, 1) := by decide +kernel
theorem dX12_readTag_168 : decode cX12_readTag 168 = .ok (.iadd, 1) := by decide +kernel
theorem dX12_readTag_169 : decode cX12_readTag 169 = .ok (.putfield 267, 3) := by decide +kernel
theorem dX12_readTag_172 : decode cX12_readTag 172 = .ok (.iconst 0, 1) := by decide +kernel
theorem dX12_readTag_173 : decode cX12_readTag 173 = .ok (.istore 6, 2) := by decide +kernel
theorem dX12_readTag_175 : decode cX12_readTag 175 = .ok (.aload_n 0, 1) := by decide +kernel
theorem dX12_readTag_176 : decode cX12_readTag 176 = .ok (.invokevirtual 276, 3) := by decide +kernel
theorem dX12_readTag_179 : decode cX12_readTag 179 = .ok (.bipush 34, 2) := by decide +kernel
theorem dX12_readTag_181 : decode cX12_readTag 181 = .ok (.if_icmp .eq 128, 3) := by decide +kernel
theorem dX12_readTag_184 : decode cX12_readTag 184 = .ok (.aload_n 0, 1) := by decide +kernel
theorem dX12_readTag_185 : decode cX12_readTag 185 = .ok (.invokevirtual 276, 3) := by decide +kernel
theorem dX12_readTag_188 : decode cX12_readTag 188 = .ok (.bipush 92, 2) := by decide +kernel
theorem dX12_readTag_190 : decode cX12_readTag 190 = .ok (.if_icmp .ne 40, 3) := by decide +kernel
theorem dX12_readTag_193 : decode cX12_readTag 193 = .ok (.aload_n 0, 1) := by decide +kernel
theorem dX12_readTag_194 : decode cX12_readTag 194 = .ok (.dup, 1) := by decide +kernel
theorem dX12_readTag_195 : decode cX12_readTag 195 = .ok (.getfield 267, 3) := by decide +kernel
theorem dX12_readTag_198 : decode cX12_readTag 198 = .ok (.iconst 1, 1) := by decide +kernel
theorem dX12_readTag_199 : decode cX12_readTag 199 = .ok (.iadd, 1) := by decide +kernel
theorem dX12_readTag_200 : decode cX12_readTag 200 = .ok (.putfield 267, 3) := by decide +kernel
theorem dX12_readTag_203 : decode cX12_readTag 203 = .ok (.aload_n 0, 1) := by decide +kernel
theorem dX12_readTag_204 : decode cX12_readTag 204 = .ok (.invokevirtual 276, 3) := by decide +kernel
theorem dX12_readTag_207 : decode cX12_readTag 207 = .ok (.bipush 34, 2) := by decide +kernel
theorem dX12_readTag_209 : decode cX12_readTag 209 = .ok (.if_icmp .eq 21, 3) := by decide +kernel
theorem dX12_readTag_212 : decode cX12_readTag 212 = .ok (.aload_n 0, 1) := by decide +kernel
theorem dX12_readTag_213 : decode cX12_readTag 213 = .ok (.invokevirtual 276, 3) := by decide +kernel
theorem dX12_readTag_216 : decode cX12_readTag 216 = .ok (.bipush 92, 2) := by decide +kernel
theorem dX12_readTag_218 : decode cX12_readTag 218 = .ok (.if_icmp .eq 12, 3) := by decide +kernel
theorem dX12_readTag_221 : decode cX12_readTag 221 = .ok (.iconst 1, 1) := by decide +kernel
theorem dX12_readTag_222 : decode cX12_readTag 222 = .ok (.aload_n 0, 1) := by decide +kernel
theorem dX12_readTag_223 : decode cX12_readTag 223 = .ok (.getfield 267, 3) := by decide +kernel
theorem dX12_readTag_226 : decode cX12_readTag 226 = .ok (.invokestatic 285, 3) := by decide +kernel
theorem dX12_readTag_229 : decode cX12_readTag 229 = .ok (.ireturn, 1) := by decide +kernel
theorem dX12_readTag_230 : decode cX12_readTag 230 = .ok (.aload_n 0, 1) := by decide +kernel
theorem dX12_readTag_231 : decode cX12_readTag 231 = .ok (.getfield 267, 3) := by decide +kernel
theorem dX12_readTag_234 : decode cX12_readTag 234 = .ok (.aload_n 0, 1) := by decide +kernel
theorem dX12_readTag_235 : decode cX12_readTag 235 = .ok (.getfield 270, 3) := by decide +kernel
theorem dX12_readTag_238 : decode cX12_readTag 238 = .ok (.if_icmp .eq 12, 3) := by decide +kernel
theorem dX12_readTag_241 : decode cX12_readTag 241 = .ok (.aload_n 0, 1) := by decide +kernel
theorem dX12_readTag_242 : decode cX12_readTag 242 = .ok (.invokevirtual 276, 3) := by decide +kernel
theorem dX12_readTag_245 : decode cX12_readTag 245 = .ok (.bipush 10, 2) := by decide +kernel
theorem dX12_readTag_247 : decode cX12_readTag 247 = .ok (.if_icmp .ne 12, 3) := by decide +kernel
theorem dX12_readTag_250 : decode cX12_readTag 250 = .ok (.iconst 1, 1) := by decide +kernel
theorem dX12_readTag_251 : decode cX12_readTag 251 = .ok (.aload_n 0, 1) := by decide +kernel
theorem dX12_readTag_252 : decode cX12_readTag 252 = .ok (.getfield 267, 3) := by decide +kernel
theorem dX12_readTag_255 : decode cX12_readTag 255 = .ok (.invokestatic 285, 3) := by decide +kernel
theorem dX12_readTag_258 : decode cX12_readTag 258 = .ok (.ireturn, 1) := by decide +kernel
theorem dX12_readTag_259 : decode cX12_readTag 259 = .ok (.iload 6, 2) := by decide +kernel
theorem dX12_readTag_261 : decode cX12_readTag 261 = .ok (.bipush 96, 2) := by decide +kernel
theorem dX12_readTag_263 : decode cX12_readTag 263 = .ok (.if_icmp .ge 30, 3) := by decide +kernel
theorem dX12_readTag_266 : decode cX12_readTag 266 = .ok (.iload 4, 2) := by decide +kernel
theorem dX12_readTag_268 : decode cX12_readTag 268 = .ok (.ifCond .ne 25, 3) := by decide +kernel
theorem dX12_readTag_271 : decode cX12_readTag 271 = .ok (.aload_n 0, 1) := by decide +kernel
theorem dX12_readTag_272 : decode cX12_readTag 272 = .ok (.getfield 64, 3) := by decide +kernel
theorem dX12_readTag_275 : decode cX12_readTag 275 = .ok (.sipush 768, 3) := by decide +kernel
theorem dX12_readTag_278 : decode cX12_readTag 278 = .ok (.iload_n 1, 1) := by decide +kernel
theorem dX12_readTag_279 : decode cX12_readTag 279 = .ok (.imul, 1) := by decide +kernel
theorem dX12_readTag_280 : decode cX12_readTag 280 = .ok (.bipush 96, 2) := by decide +kernel
theorem dX12_readTag_282 : decode cX12_readTag 282 = .ok (.iload_n 3, 1) := by decide +kernel
theorem dX12_readTag_283 : decode cX12_readTag 283 = .ok (.imul, 1) := by decide +kernel
theorem dX12_readTag_284 : decode cX12_readTag 284 = .ok (.iadd, 1) := by decide +kernel
theorem dX12_readTag_285 : decode cX12_readTag 285 = .ok (.iload 6, 2) := by decide +kernel
theorem dX12_readTag_287 : decode cX12_readTag 287 = .ok (.iadd, 1) := by decide +kernel
theorem dX12_readTag_288 : decode cX12_readTag 288 = .ok (.aload_n 0, 1) := by decide +kernel
theorem dX12_readTag_289 : decode cX12_readTag 289 = .ok (.invokevirtual 276, 3) := by decide +kernel
theorem dX12_readTag_292 : decode cX12_readTag 292 = .ok (.castore, 1) := by decide +kernel
theorem dX12_readTag_293 : decode cX12_readTag 293 = .ok (.iinc 6 1, 3) := by decide +kernel
theorem dX12_readTag_296 : decode cX12_readTag 296 = .ok (.aload_n 0, 1) := by decide +kernel
theorem dX12_readTag_297 : decode cX12_readTag 297 = .ok (.dup, 1) := by decide +kernel
theorem dX12_readTag_298 : decode cX12_readTag 298 = .ok (.getfield 267, 3) := by decide +kernel
theorem dX12_readTag_301 : decode cX12_readTag 301 = .ok (.iconst 1, 1) := by decide +kernel
theorem dX12_readTag_302 : decode cX12_readTag 302 = .ok (.iadd, 1) := by decide +kernel
theorem dX12_readTag_303 : decode cX12_readTag 303 = .ok (.putfield 267, 3) := by decide +kernel
theorem dX12_readTag_306 : decode cX12_readTag 306 = .ok (.goto (-131), 3) := by decide +kernel
theorem dX12_readTag_309 : decode cX12_readTag 309 = .ok (.aload_n 0, 1) := by decide +kernel
theorem dX12_readTag_310 : decode cX12_readTag 310 = .ok (.dup, 1) := by decide +kernel
theorem dX12_readTag_311 : decode cX12_readTag 311 = .ok (.getfield 267, 3) := by decide +kernel
theorem dX12_readTag_314 : decode cX12_readTag 314 = .ok (.iconst 1, 1) := by decide +kernel
theorem dX12_readTag_315 : decode cX12_readTag 315 = .ok (.iadd, 1) := by decide +kernel
theorem dX12_readTag_316 : decode cX12_readTag 316 = .ok (.putfield 267, 3) := by decide +kernel
theorem dX12_readTag_319 : decode cX12_readTag 319 = .ok (.aload_n 0, 1) := by decide +kernel
theorem dX12_readTag_320 : decode cX12_readTag 320 = .ok (.invokevirtual 273, 3) := by decide +kernel
theorem dX12_readTag_323 : decode cX12_readTag 323 = .ok (.aload_n 0, 1) := by decide +kernel
theorem dX12_readTag_324 : decode cX12_readTag 324 = .ok (.invokevirtual 276, 3) := by decide +kernel
theorem dX12_readTag_327 : decode cX12_readTag 327 = .ok (.bipush 93, 2) := by decide +kernel
theorem dX12_readTag_329 : decode cX12_readTag 329 = .ok (.if_icmp .eq 12, 3) := by decide +kernel
theorem dX12_readTag_332 : decode cX12_readTag 332 = .ok (.iconst 1, 1) := by decide +kernel
theorem dX12_readTag_333 : decode cX12_readTag 333 = .ok (.aload_n 0, 1) := by decide +kernel
theorem dX12_readTag_334 : decode cX12_readTag 334 = .ok (.getfield 267, 3) := by decide +kernel
theorem dX12_readTag_337 : decode cX12_readTag 337 = .ok (.invokestatic 285, 3) := by decide +kernel
theorem dX12_readTag_340 : decode cX12_readTag 340 = .ok (.ireturn, 1) := by decide +kernel
theorem dX12_readTag_341 : decode cX12_readTag 341 = .ok (.aload_n 0, 1) := by decide +kernel
theorem dX12_readTag_342 : decode cX12_readTag 342 = .ok (.dup, 1) := by decide +kernel
theorem dX12_readTag_343 : decode cX12_readTag 343 = .ok (.getfield 267, 3) := by decide +kernel
theorem dX12_readTag_346 : decode cX12_readTag 346 = .ok (.iconst 1, 1) := by decide +kernel
theorem dX12_readTag_347 : decode cX12_readTag 347 = .ok (.iadd, 1) := by decide +kernel
theorem dX12_readTag_348 : decode cX12_readTag 348 = .ok (.putfield 267, 3) := by decide +kernel
theorem dX12_readTag_351 : decode cX12_readTag 351 = .ok (.iload 4, 2) := by decide +kernel
theorem dX12_readTag_353 : decode cX12_readTag 353 = .ok (.ifCond .ne 17, 3) := by decide +kernel
theorem dX12_readTag_356 : decode cX12_readTag 356 = .ok (.iload 5, 2) := by decide +kernel
theorem dX12_readTag_358 : decode cX12_readTag 358 = .ok (.bipush 12, 2) := by decide +kernel
theorem dX12_readTag_360 : decode cX12_readTag 360 = .ok (.if_icmp .gt 10, 3) := by decide +kernel
theorem dX12_readTag_363 : decode cX12_readTag 363 = .ok (.iload 6, 2) := by decide +kernel
theorem dX12_readTag_365 : decode cX12_readTag 365 = .ok (.bipush 96, 2) := by decide +kernel
theorem dX12_readTag_367 : decode cX12_readTag 367 = .ok (.if_icmp .le 9, 3) := by decide +kernel
theorem dX12_readTag_370 : decode cX12_readTag 370 = .ok (.iconst 2, 1) := by decide +kernel
theorem dX12_readTag_371 : decode cX12_readTag 371 = .ok (.iload_n 2, 1) := by decide +kernel
theorem dX12_readTag_372 : decode cX12_readTag 372 = .ok (.invokestatic 285, 3) := by decide +kernel
theorem dX12_readTag_375 : decode cX12_readTag 375 = .ok (.ireturn, 1) := by decide +kernel
theorem dX12_readTag_376 : decode cX12_readTag 376 = .ok (.aload_n 0, 1) := by decide +kernel
theorem dX12_readTag_377 : decode cX12_readTag 377 = .ok (.getfield 55, 3) := by decide +kernel
theorem dX12_readTag_380 : decode cX12_readTag 380 = .ok (.bipush 8, 2) := by decide +kernel
theorem dX12_readTag_382 : decode cX12_readTag 382 = .ok (.iload_n 1, 1) := by decide +kernel
theorem dX12_readTag_383 : decode cX12_readTag 383 = .ok (.imul, 1) := by decide +kernel
theorem dX12_readTag_384 : decode cX12_readTag 384 = .ok (.iload_n 3, 1) := by decide +kernel
theorem dX12_readTag_385 : decode cX12_readTag 385 = .ok (.iadd, 1) := by decide +kernel
theorem dX12_readTag_386 : decode cX12_readTag 386 = .ok (.iload 5, 2) := by decide +kernel
theorem dX12_readTag_388 : decode cX12_readTag 388 = .ok (.iastore, 1) := by decide +kernel
theorem dX12_readTag_389 : decode cX12_readTag 389 = .ok (.aload_n 0, 1) := by decide +kernel
theorem dX12_readTag_390 : decode cX12_readTag 390 = .ok (.getfield 61, 3) := by decide +kernel
theorem dX12_readTag_393 : decode cX12_readTag 393 = .ok (.bipush 8, 2) := by decide +kernel
theorem dX12_readTag_395 : decode cX12_readTag 395 = .ok (.iload_n 1, 1) := by decide +kernel
theorem dX12_readTag_396 : decode cX12_readTag 396 = .ok (.imul, 1) := by decide +kernel
theorem dX12_readTag_397 : decode cX12_readTag 397 = .ok (.iload_n 3, 1) := by decide +kernel
theorem dX12_readTag_398 : decode cX12_readTag 398 = .ok (.iadd, 1) := by decide +kernel
theorem dX12_readTag_399 : decode cX12_readTag 399 = .ok (.iload 6, 2) := by decide +kernel
theorem dX12_readTag_401 : decode cX12_readTag 401 = .ok (.iastore, 1) := by decide +kernel
theorem dX12_readTag_402 : decode cX12_readTag 402 = .ok (.aload_n 0, 1) := by decide +kernel
theorem dX12_readTag_403 : decode cX12_readTag 403 = .ok (.iload_n 1, 1) := by decide +kernel
theorem dX12_readTag_404 : decode cX12_readTag 404 = .ok (.iload_n 3, 1) := by decide +kernel
theorem dX12_readTag_405 : decode cX12_readTag 405 = .ok (.invokevirtual 289, 3) := by decide +kernel
theorem dX12_readTag_408 : decode cX12_readTag 408 = .ok (.ifCond .eq 9, 3) := by decide +kernel
theorem dX12_readTag_411 : decode cX12_readTag 411 = .ok (.iconst 2, 1) := by decide +kernel
theorem dX12_readTag_412 : decode cX12_readTag 412 = .ok (.iload_n 2, 1) := by decide +kernel
theorem dX12_readTag_413 : decode cX12_readTag 413 = .ok (.invokestatic 285, 3) := by decide +kernel
theorem dX12_readTag_416 : decode cX12_readTag 416 = .ok (.ireturn, 1) := by decide +kernel
theorem dX12_readTag_417 : decode cX12_readTag 417 = .ok (.aload_n 0, 1) := by decide +kernel
theorem dX12_readTag_418 : decode cX12_readTag 418 = .ok (.iload_n 3, 1) := by decide +kernel
theorem dX12_readTag_419 : decode cX12_readTag 419 = .ok (.iload_n 1, 1) := by decide +kernel
theorem dX12_readTag_420 : decode cX12_readTag 420 = .ok (.iconst 0, 1) := by decide +kernel
theorem dX12_readTag_421 : decode cX12_readTag 421 = .ok (.invokevirtual 292, 3) := by decide +kernel
theorem dX12_readTag_424 : decode cX12_readTag 424 = .ok (.ifCond .eq 33, 3) := by decide +kernel
theorem dX12_readTag_427 : decode cX12_readTag 427 = .ok (.aload_n 0, 1) := by decide +kernel
theorem dX12_readTag_428 : decode cX12_readTag 428 = .ok (.sipush 768, 3) := by decide +kernel
theorem dX12_readTag_431 : decode cX12_readTag 431 = .ok (.iload_n 1, 1) := by decide +kernel
theorem dX12_readTag_432 : decode cX12_readTag 432 = .ok (.imul, 1) := by decide +kernel
theorem dX12_readTag_433 : decode cX12_readTag 433 = .ok (.bipush 96, 2) := by decide +kernel
theorem dX12_readTag_435 : decode cX12_readTag 435 = .ok (.iload_n 3, 1) := by decide +kernel
theorem dX12_readTag_436 : decode cX12_readTag 436 = .ok (.imul, 1) := by decide +kernel
theorem dX12_readTag_437 : decode cX12_readTag 437 = .ok (.iadd, 1) := by decide +kernel
theorem dX12_readTag_438 : decode cX12_readTag 438 = .ok (.iload 6, 2) := by decide +kernel
theorem dX12_readTag_440 : decode cX12_readTag 440 = .ok (.invokevirtual 296, 3) := by decide +kernel
theorem dX12_readTag_443 : decode cX12_readTag 443 = .ok (.ifCond .ne 9, 3) := by decide +kernel
theorem dX12_readTag_446 : decode cX12_readTag 446 = .ok (.iconst 3, 1) := by decide +kernel
theorem dX12_readTag_447 : decode cX12_readTag 447 = .ok (.iload_n 2, 1) := by decide +kernel
theorem dX12_readTag_448 : decode cX12_readTag 448 = .ok (.invokestatic 285, 3) := by decide +kernel
theorem dX12_readTag_451 : decode cX12_readTag 451 = .ok (.ireturn, 1) := by decide +kernel
theorem dX12_readTag_452 : decode cX12_readTag 452 = .ok (.aload_n 0, 1) := by decide +kernel
theorem dX12_readTag_453 : decode cX12_readTag 453 = .ok (.iload_n 1, 1) := by decide +kernel
theorem dX12_readTag_454 : decode cX12_readTag 454 = .ok (.invokevirtual 182, 3) := by decide +kernel
theorem dX12_readTag_457 : decode cX12_readTag 457 = .ok (.aload_n 0, 1) := by decide +kernel
theorem dX12_readTag_458 : decode cX12_readTag 458 = .ok (.getfield 52, 3) := by decide +kernel
theorem dX12_readTag_461 : decode cX12_readTag 461 = .ok (.iload_n 1, 1) := by decide +kernel
theorem dX12_readTag_462 : decode cX12_readTag 462 = .ok (.dup2, 1) := by decide +kernel
theorem dX12_readTag_463 : decode cX12_readTag 463 = .ok (.iaload, 1) := by decide +kernel
theorem dX12_readTag_464 : decode cX12_readTag 464 = .ok (.iconst 1, 1) := by decide +kernel
theorem dX12_readTag_465 : decode cX12_readTag 465 = .ok (.iadd, 1) := by decide +kernel
theorem dX12_readTag_466 : decode cX12_readTag 466 = .ok (.iastore, 1) := by decide +kernel
theorem dX12_readTag_467 : decode cX12_readTag 467 = .ok (.iconst 0, 1) := by decide +kernel
theorem dX12_readTag_468 : decode cX12_readTag 468 = .ok (.ireturn, 1) := by decide +kernel
theorem dX12_readRemarks_0 : decode cX12_readRemarks 0 = .ok (.aload_n 0, 1) := by decide +kernel
theorem dX12_readRemarks_1 : decode cX12_readRemarks 1 = .ok (.invokevirtual 273, 3) := by decide +kernel
theorem dX12_readRemarks_4 : decode cX12_readRemarks 4 = .ok (.aload_n 0, 1) := by decide +kernel
theorem dX12_readRemarks_5 : decode cX12_readRemarks 5 = .ok (.invokevirtual 276, 3) := by decide +kernel
theorem dX12_readRemarks_8 : decode cX12_readRemarks 8 = .ok (.bipush 123, 2) := by decide +kernel
theorem dX12_readRemarks_10 : decode cX12_readRemarks 10 = .ok (.if_icmp .eq 12, 3) := by decide +kernel
theorem dX12_readRemarks_13 : decode cX12_readRemarks 13 = .ok (.aload_n 0, 1) := by decide +kernel
theorem dX12_readRemarks_14 : decode cX12_readRemarks 14 = .ok (.invokevirtual 276, 3) := by decide +kernel
theorem dX12_readRemarks_17 : decode cX12_readRemarks 17 = .ok (.bipush 59, 2) := by decide +kernel
theorem dX12_readRemarks_19 : decode cX12_readRemarks 19 = .ok (.if_icmp .ne 335, 3) := by decide +kernel
theorem dX12_readRemarks_22 : decode cX12_readRemarks 22 = .ok (.aload_n 0, 1) := by decide +kernel
theorem dX12_readRemarks_23 : decode cX12_readRemarks 23 = .ok (.getfield 267, 3) := by decide +kernel
theorem dX12_readRemarks_26 : decode cX12_readRemarks 26 = .ok (.istore_n 3, 1) := by decide +kernel
theorem dX12_readRemarks_27 : decode cX12_readRemarks 27 = .ok (.aload_n 0, 1) := by decide +kernel
theorem dX12_readRemarks_28 : decode cX12_readRemarks 28 = .ok (.invokevirtual 276, 3) := by decide +kernel
theorem dX12_readRemarks_31 : decode cX12_readRemarks 31 = .ok (.bipush 123, 2) := by decide +kernel
theorem dX12_readRemarks_33 : decode cX12_readRemarks 33 = .ok (.if_icmp .ne 7, 3) := by decide +kernel
theorem dX12_readRemarks_36 : decode cX12_readRemarks 36 = .ok (.iconst 1, 1) := by decide +kernel
theorem dX12_readRemarks_37 : decode cX12_readRemarks 37 = .ok (.goto 4, 3) := by decide +kernel
theorem dX12_readRemarks_40 : decode cX12_readRemarks 40 = .ok (.iconst 0, 1) := by decide +kernel
theorem dX12_readRemarks_41 : decode cX12_readRemarks 41 = .ok (.istore 4, 2) := by decide +kernel
theorem dX12_readRemarks_43 : decode cX12_readRemarks 43 = .ok (.aload_n 0, 1) := by decide +kernel
theorem dX12_readRemarks_44 : decode cX12_readRemarks 44 = .ok (.dup, 1) := by decide +kernel
theorem dX12_readRemarks_45 : decode cX12_readRemarks 45 = .ok (.getfield 267, 3) := by decide +kernel
theorem dX12_readRemarks_48 : decode cX12_readRemarks 48 = .ok (.iconst 1, 1) := by decide +kernel
theorem dX12_readRemarks_49 : decode cX12_readRemarks 49 = .ok (.iadd, 1) := by decide +kernel
theorem dX12_readRemarks_50 : decode cX12_readRemarks 50 = .ok (.putfield 267, 3) := by decide +kernel
theorem dX12_readRemarks_53 : decode cX12_readRemarks 53 = .ok (.aload_n 0, 1) := by decide +kernel
theorem dX12_readRemarks_54 : decode cX12_readRemarks 54 = .ok (.getfield 267, 3) := by decide +kernel
theorem dX12_readRemarks_57 : decode cX12_readRemarks 57 = .ok (.istore 5, 2) := by decide +kernel
theorem dX12_readRemarks_59 : decode cX12_readRemarks 59 = .ok (.aload_n 0, 1) := by decide +kernel
theorem dX12_readRemarks_60 : decode cX12_readRemarks 60 = .ok (.getfield 267, 3) := by decide +kernel
theorem dX12_readRemarks_63 : decode cX12_readRemarks 63 = .ok (.aload_n 0, 1) := by decide +kernel
theorem dX12_readRemarks_64 : decode cX12_readRemarks 64 = .ok (.getfield 270, 3) := by decide +kernel
theorem dX12_readRemarks_67 : decode cX12_readRemarks 67 = .ok (.if_icmp .ge 65, 3) := by decide +kernel
theorem dX12_readRemarks_70 : decode cX12_readRemarks 70 = .ok (.iload 4, 2) := by decide +kernel
theorem dX12_readRemarks_72 : decode cX12_readRemarks 72 = .ok (.ifCond .eq 15, 3) := by decide +kernel
theorem dX12_readRemarks_75 : decode cX12_readRemarks 75 = .ok (.aload_n 0, 1) := by decide +kernel
theorem dX12_readRemarks_76 : decode cX12_readRemarks 76 = .ok (.invokevirtual 276, 3) := by decide +kernel
theorem dX12_readRemarks_79 : decode cX12_readRemarks 79 = .ok (.bipush 125, 2) := by decide +kernel
theorem dX12_readRemarks_81 : decode cX12_readRemarks 81 = .ok (.if_icmp .eq 51, 3) := by decide +kernel
theorem dX12_readRemarks_84 : decode cX12_readRemarks 84 = .ok (.goto 12, 3) := by decide +kernel
theorem dX12_readRemarks_87 : decode cX12_readRemarks 87 = .ok (.aload_n 0, 1) := by decide +kernel
theorem dX12_readRemarks_88 : decode cX12_readRemarks 88 = .ok (.invokevirtual 276, 3) := by decide +kernel
theorem dX12_readRemarks_91 : decode cX12_readRemarks 91 = .ok (.bipush 10, 2) := by decide +kernel
theorem dX12_readRemarks_93 : decode cX12_readRemarks 93 = .ok (.if_icmp .eq 39, 3) := by decide +kernel
theorem dX12_readRemarks_96 : decode cX12_readRemarks 96 = .ok (.iload 4, 2) := by decide +kernel
theorem dX12_readRemarks_98 : decode cX12_readRemarks 98 = .ok (.ifCond .ne 21, 3) := by decide +kernel
theorem dX12_readRemarks_101 : decode cX12_readRemarks 101 = .ok (.aload_n 0, 1) := by decide +kernel
theorem dX12_readRemarks_102 : decode cX12_readRemarks 102 = .ok (.invokevirtual 276, 3) := by decide +kernel
theorem dX12_readRemarks_105 : decode cX12_readRemarks 105 = .ok (.bipush 125, 2) := by decide +kernel
theorem dX12_readRemarks_107 : decode cX12_readRemarks 107 = .ok (.if_icmp .ne 12, 3) := by decide +kernel
theorem dX12_readRemarks_110 : decode cX12_readRemarks 110 = .ok (.iconst 1, 1) := by decide +kernel
theorem dX12_readRemarks_111 : decode cX12_readRemarks 111 = .ok (.aload_n 0, 1) := by decide +kernel
theorem dX12_readRemarks_112 : decode cX12_readRemarks 112 = .ok (.getfield 267, 3) := by decide +kernel
theorem dX12_readRemarks_115 : decode cX12_readRemarks 115 = .ok (.invokestatic 285, 3) := by decide +kernel
theorem dX12_readRemarks_118 : decode cX12_readRemarks 118 = .ok (.ireturn, 1) := by decide +kernel
theorem dX12_readRemarks_119 : decode cX12_readRemarks 119 = .ok (.aload_n 0, 1) := by decide +kernel
theorem dX12_readRemarks_120 : decode cX12_readRemarks 120 = .ok (.dup, 1) := by decide +kernel
theorem dX12_readRemarks_121 : decode cX12_readRemarks 121 = .ok (.getfield 267, 3) := by decide +kernel
theorem dX12_readRemarks_124 : decode cX12_readRemarks 124 = .ok (.iconst 1, 1) := by decide +kernel
theorem dX12_readRemarks_125 : decode cX12_readRemarks 125 = .ok (.iadd, 1) := by decide +kernel
theorem dX12_readRemarks_126 : decode cX12_readRemarks 126 = .ok (.putfield 267, 3) := by decide +kernel
theorem dX12_readRemarks_129 : decode cX12_readRemarks 129 = .ok (.goto (-70), 3) := by decide +kernel
theorem dX12_readRemarks_132 : decode cX12_readRemarks 132 = .ok (.iload 4, 2) := by decide +kernel
theorem dX12_readRemarks_134 : decode cX12_readRemarks 134 = .ok (.ifCond .eq 23, 3) := by decide +kernel
theorem dX12_readRemarks_137 : decode cX12_readRemarks 137 = .ok (.aload_n 0, 1) := by decide +kernel
theorem dX12_readRemarks_138 : decode cX12_readRemarks 138 = .ok (.getfield 267, 3) := by decide +kernel
theorem dX12_readRemarks_141 : decode cX12_readRemarks 141 = .ok (.aload_n 0, 1) := by decide +kernel
theorem dX12_readRemarks_142 : decode cX12_readRemarks 142 = .ok (.getfield 270, 3) := by decide +kernel
theorem dX12_readRemarks_145 : decode cX12_readRemarks 145 = .ok (.if_icmp .ne 12, 3) := by decide +kernel
theorem dX12_readRemarks_148 : decode cX12_readRemarks 148 = .ok (.iconst 1, 1) := by decide +kernel
theorem dX12_readRemarks_149 : decode cX12_readRemarks 149 = .ok (.aload_n 0, 1) := by decide +kernel
theorem dX12_readRemarks_150 : decode cX12_readRemarks 150 = .ok (.getfield 267, 3) := by decide +kernel
theorem dX12_readRemarks_153 : decode cX12_readRemarks 153 = .ok (.invokestatic 285, 3) := by decide +kernel
theorem dX12_readRemarks_156 : decode cX12_readRemarks 156 = .ok (.ireturn, 1) := by decide +kernel
theorem dX12_readRemarks_157 : decode cX12_readRemarks 157 = .ok (.aload_n 0, 1) := by decide +kernel
theorem dX12_readRemarks_158 : decode cX12_readRemarks 158 = .ok (.getfield 267, 3) := by decide +kernel
theorem dX12_readRemarks_161 : decode cX12_readRemarks 161 = .ok (.iload 5, 2) := by decide +kernel
theorem dX12_readRemarks_163 : decode cX12_readRemarks 163 = .ok (.isub, 1) := by decide +kernel
theorem dX12_readRemarks_164 : decode cX12_readRemarks 164 = .ok (.istore 6, 2) := by decide +kernel
theorem dX12_readRemarks_166 : decode cX12_readRemarks 166 = .ok (.sipush 301, 3) := by decide +kernel
theorem dX12_readRemarks_169 : decode cX12_readRemarks 169 = .ok (.iload_n 1, 1) := by decide +kernel
theorem dX12_readRemarks_170 : decode cX12_readRemarks 170 = .ok (.imul, 1) := by decide +kernel
theorem dX12_readRemarks_171 : decode cX12_readRemarks 171 = .ok (.iload_n 2, 1) := by decide +kernel
theorem dX12_readRemarks_172 : decode cX12_readRemarks 172 = .ok (.iadd, 1) := by decide +kernel
theorem dX12_readRemarks_173 : decode cX12_readRemarks 173 = .ok (.istore 7, 2) := by decide +kernel
theorem dX12_readRemarks_175 : decode cX12_readRemarks 175 = .ok (.aload_n 0, 1) := by decide +kernel
theorem dX12_readRemarks_176 : decode cX12_readRemarks 176 = .ok (.getfield 39, 3) := by decide +kernel
theorem dX12_readRemarks_179 : decode cX12_readRemarks 179 = .ok (.iload 7, 2) := by decide +kernel
theorem dX12_readRemarks_181 : decode cX12_readRemarks 181 = .ok (.iaload, 1) := by decide +kernel
theorem dX12_readRemarks_182 : decode cX12_readRemarks 182 = .ok (.istore 8, 2) := by decide +kernel
theorem dX12_readRemarks_184 : decode cX12_readRemarks 184 = .ok (.iload 6, 2) := by decide +kernel
theorem dX12_readRemarks_186 : decode cX12_readRemarks 186 = .ok (.ifCond .le 12, 3) := by decide +kernel
theorem dX12_readRemarks_189 : decode cX12_readRemarks 189 = .ok (.iload 8, 2) := by decide +kernel
theorem dX12_readRemarks_191 : decode cX12_readRemarks 191 = .ok (.ifCond .le 7, 3) := by decide +kernel
theorem dX12_readRemarks_194 : decode cX12_readRemarks 194 = .ok (.iconst 1, 1) := by decide +kernel
theorem dX12_readRemarks_195 : decode cX12_readRemarks 195 = .ok (.goto 4, 3) := by decide +kernel
theorem dX12_readRemarks_198 : decode cX12_readRemarks 198 = .ok (.iconst 0, 1) := by decide +kernel
theorem dX12_readRemarks_199 : decode cX12_readRemarks 199 = .ok (.istore 9, 2) := by decide +kernel
theorem dX12_readRemarks_201 : decode cX12_readRemarks 201 = .ok (.iload 8, 2) := by decide +kernel
theorem dX12_readRemarks_203 : decode cX12_readRemarks 203 = .ok (.iload 9, 2) := by decide +kernel
theorem dX12_readRemarks_205 : decode cX12_readRemarks 205 = .ok (.iadd, 1) := by decide +kernel
theorem dX12_readRemarks_206 : decode cX12_readRemarks 206 = .ok (.iload 6, 2) := by decide +kernel
theorem dX12_readRemarks_208 : decode cX12_readRemarks 208 = .ok (.iadd, 1) := by decide +kernel
theorem dX12_readRemarks_209 : decode cX12_readRemarks 209 = .ok (.sipush 200, 3) := by decide +kernel
theorem dX12_readRemarks_212 : decode cX12_readRemarks 212 = .ok (.if_icmp .le 10, 3) := by decide +kernel
theorem dX12_readRemarks_215 : decode cX12_readRemarks 215 = .ok (.bipush 8, 2) := by decide +kernel
theorem dX12_readRemarks_217 : decode cX12_readRemarks 217 = .ok (.iload_n 3, 1) := by decide +kernel
theorem dX12_readRemarks_218 : decode cX12_readRemarks 218 = .ok (.invokestatic 285, 3) := by decide +kernel
theorem dX12_readRemarks_221 : decode cX12_readRemarks 221 = .ok (.ireturn, 1) := by decide +kernel
theorem dX12_readRemarks_222 : decode cX12_readRemarks 222 = .ok (.iload 9, 2) := by decide +kernel
theorem dX12_readRemarks_224 : decode cX12_readRemarks 224 = .ok (.iconst 1, 1) := by decide +kernel
theorem dX12_readRemarks_225 : decode cX12_readRemarks 225 = .ok (.if_icmp .ne 19, 3) := by decide +kernel
theorem dX12_readRemarks_228 : decode cX12_readRemarks 228 = .ok (.aload_n 0, 1) := by decide +kernel
theorem dX12_readRemarks_229 : decode cX12_readRemarks 229 = .ok (.getfield 43, 3) := by decide +kernel
theorem dX12_readRemarks_232 : decode cX12_readRemarks 232 = .ok (.sipush 200, 3) := by decide +kernel
theorem dX12_readRemarks_235 : decode cX12_readRemarks 235 = .ok (.iload 7, 2) := by decide +kernel
theorem dX12_readRemarks_237 : decode cX12_readRemarks 237 = .ok (.imul, 1) := by decide +kernel
theorem dX12_readRemarks_238 : decode cX12_readRemarks 238 = .ok (.iload 8, 2) := by decide +kernel
theorem dX12_readRemarks_240 : decode cX12_readRemarks 240 = .ok (.iadd, 1) := by decide +kernel
theorem dX12_readRemarks_241 : decode cX12_readRemarks 241 = .ok (.bipush 32, 2) := by decide +kernel
theorem dX12_readRemarks_243 : decode cX12_readRemarks 243 = .ok (.castore, 1) := by decide +kernel
theorem dX12_readRemarks_244 : decode cX12_readRemarks 244 = .ok (.iconst 0, 1) := by decide +kernel
theorem dX12_readRemarks_245 : decode cX12_readRemarks 245 = .ok (.istore 10, 2) := by decide +kernel
theorem dX12_readRemarks_247 : decode cX12_readRemarks 247 = .ok (.iload 10, 2) := by decide +kernel
theorem dX12_readRemarks_249 : decode cX12_readRemarks 249 = .ok (.iload 6, 2) := by decide +kernel
theorem dX12_readRemarks_251 : decode cX12_readRemarks 251 = .ok (.if_icmp .ge 59, 3) := by decide +kernel
theorem dX12_readRemarks_254 : decode cX12_readRemarks 254 = .ok (.aload_n 0, 1) := by decide +kernel
theorem dX12_readRemarks_255 : decode cX12_readRemarks 255 = .ok (.getfield 43, 3) := by decide +kernel
theorem dX12_readRemarks_258 : decode cX12_readRemarks 258 = .ok (.sipush 200, 3) := by decide +kernel
theorem dX12_readRemarks_261 : decode cX12_readRemarks 261 = .ok (.iload 7, 2) := by decide +kernel
theorem dX12_readRemarks_263 : decode cX12_readRemarks 263 = .ok (.imul, 1) := by decide +kernel
theorem dX12_readRemarks_264 : decode cX12_readRemarks 264 = .ok (.iload 8, 2) := by decide +kernel
theorem dX12_readRemarks_266 : decode cX12_readRemarks 266 = .ok (.iadd, 1) := by decide +kernel
theorem dX12_readRemarks_267 : decode cX12_readRemarks 267 = .ok (.iload 9, 2) := by decide +kernel
theorem dX12_readRemarks_269 : decode cX12_readRemarks 269 = .ok (.iadd, 1) := by decide +kernel
theorem dX12_readRemarks_270 : decode cX12_readRemarks 270 = .ok (.iload 10, 2) := by decide +kernel
theorem dX12_readRemarks_272 : decode cX12_readRemarks 272 = .ok (.iadd, 1) := by decide +kernel
theorem dX12_readRemarks_273 : decode cX12_readRemarks 273 = .ok (.aload_n 0, 1) := by decide +kernel
theorem dX12_readRemarks_274 : decode cX12_readRemarks 274 = .ok (.getfield 7, 3) := by decide +kernel
theorem dX12_readRemarks_277 : decode cX12_readRemarks 277 = .ok (.iload 5, 2) := by decide +kernel
theorem dX12_readRemarks_279 : decode cX12_readRemarks 279 = .ok (.iload 10, 2) := by decide +kernel
theorem dX12_readRemarks_281 : decode cX12_readRemarks 281 = .ok (.iadd, 1) := by decide +kernel
theorem dX12_readRemarks_282 : decode cX12_readRemarks 282 = .ok (.caload, 1) := by decide +kernel
theorem dX12_readRemarks_283 : decode cX12_readRemarks 283 = .ok (.bipush 10, 2) := by decide +kernel
theorem dX12_readRemarks_285 : decode cX12_readRemarks 285 = .ok (.if_icmp .ne 8, 3) := by decide +kernel
theorem dX12_readRemarks_288 : decode cX12_readRemarks 288 = .ok (.bipush 32, 2) := by decide +kernel
theorem dX12_readRemarks_290 : decode cX12_readRemarks 290 = .ok (.goto 13, 3) := by decide +kernel
theorem dX12_readRemarks_293 : decode cX12_readRemarks 293 = .ok (.aload_n 0, 1) := by decide +kernel
theorem dX12_readRemarks_294 : decode cX12_readRemarks 294 = .ok (.getfield 7, 3) := by decide +kernel
theorem dX12_readRemarks_297 : decode cX12_readRemarks 297 = .ok (.iload 5, 2) := by decide +kernel
theorem dX12_readRemarks_299 : decode cX12_readRemarks 299 = .ok (.iload 10, 2) := by decide +kernel
theorem dX12_readRemarks_301 : decode cX12_readRemarks 301 = .ok (.iadd, 1) := by decide +kernel
theorem dX12_readRemarks_302 : decode cX12_readRemarks 302 = .ok (.caload, 1) := by decide +kernel
theorem dX12_readRemarks_303 : decode cX12_readRemarks 303 = .ok (.castore, 1) := by decide +kernel
theorem dX12_readRemarks_304 : decode cX12_readRemarks 304 = .ok (.iinc 10 1, 3) := by decide +kernel
theorem dX12_readRemarks_307 : decode cX12_readRemarks 307 = .ok (.goto (-60), 3) := by decide +kernel
theorem dX12_readRemarks_310 : decode cX12_readRemarks 310 = .ok (.aload_n 0, 1) := by decide +kernel
theorem dX12_readRemarks_311 : decode cX12_readRemarks 311 = .ok (.getfield 39, 3) := by decide +kernel
theorem dX12_readRemarks_314 : decode cX12_readRemarks 314 = .ok (.iload 7, 2) := by decide +kernel
theorem dX12_readRemarks_316 : decode cX12_readRemarks 316 = .ok (.iload 8, 2) := by decide +kernel
theorem dX12_readRemarks_318 : decode cX12_readRemarks 318 = .ok (.iload 9, 2) := by decide +kernel
theorem dX12_readRemarks_320 : decode cX12_readRemarks 320 = .ok (.iadd, 1) := by decide +kernel
theorem dX12_readRemarks_321 : decode cX12_readRemarks 321 = .ok (.iload 6, 2) := by decide +kernel
theorem dX12_readRemarks_323 : decode cX12_readRemarks 323 = .ok (.iadd, 1) := by decide +kernel
theorem dX12_readRemarks_324 : decode cX12_readRemarks 324 = .ok (.iastore, 1) := by decide +kernel
theorem dX12_readRemarks_325 : decode cX12_readRemarks 325 = .ok (.aload_n 0, 1) := by decide +kernel
theorem dX12_readRemarks_326 : decode cX12_readRemarks 326 = .ok (.iload 4, 2) := by decide +kernel
theorem dX12_readRemarks_328 : decode cX12_readRemarks 328 = .ok (.ifCond .eq 12, 3) := by decide +kernel
theorem dX12_readRemarks_331 : decode cX12_readRemarks 331 = .ok (.aload_n 0, 1) := by decide +kernel
theorem dX12_readRemarks_332 : decode cX12_readRemarks 332 = .ok (.getfield 267, 3) := by decide +kernel
theorem dX12_readRemarks_335 : decode cX12_readRemarks 335 = .ok (.iconst 1, 1) := by decide +kernel
theorem dX12_readRemarks_336 : decode cX12_readRemarks 336 = .ok (.iadd, 1) := by decide +kernel
theorem dX12_readRemarks_337 : decode cX12_readRemarks 337 = .ok (.goto 7, 3) := by decide +kernel
theorem dX12_readRemarks_340 : decode cX12_readRemarks 340 = .ok (.aload_n 0, 1) := by decide +kernel
theorem dX12_readRemarks_341 : decode cX12_readRemarks 341 = .ok (.getfield 267, 3) := by decide +kernel
theorem dX12_readRemarks_344 : decode cX12_readRemarks 344 = .ok (.putfield 267, 3) := by decide +kernel
theorem dX12_readRemarks_347 : decode cX12_readRemarks 347 = .ok (.aload_n 0, 1) := by decide +kernel
theorem dX12_readRemarks_348 : decode cX12_readRemarks 348 = .ok (.invokevirtual 273, 3) := by decide +kernel
theorem dX12_readRemarks_351 : decode cX12_readRemarks 351 = .ok (.goto (-347), 3) := by decide +kernel
theorem dX12_readRemarks_354 : decode cX12_readRemarks 354 = .ok (.iconst 0, 1) := by decide +kernel
theorem dX12_readRemarks_355 : decode cX12_readRemarks 355 = .ok (.ireturn, 1) := by decide +kernel
theorem dX12_goesOnWith_0 : decode cX12_goesOnWith 0 = .ok (.aload_n 0, 1) := by decide +kernel
theorem dX12_goesOnWith_1 : decode cX12_goesOnWith 1 = .ok (.getfield 267, 3) := by decide +kernel
theorem dX12_goesOnWith_4 : decode cX12_goesOnWith 4 = .ok (.iconst 2, 1) := by decide +kernel
theorem dX12_goesOnWith_5 : decode cX12_goesOnWith 5 = .ok (.iadd, 1) := by decide +kernel
theorem dX12_goesOnWith_6 : decode cX12_goesOnWith 6 = .ok (.aload_n 0, 1) := by decide +kernel
theorem dX12_goesOnWith_7 : decode cX12_goesOnWith 7 = .ok (.getfield 270, 3) := by decide +kernel
theorem dX12_goesOnWith_10 : decode cX12_goesOnWith 10 = .ok (.if_icmp .ge 50, 3) := by decide +kernel
theorem dX12_goesOnWith_13 : decode cX12_goesOnWith 13 = .ok (.aload_n 0, 1) := by decide +kernel
theorem dX12_goesOnWith_14 : decode cX12_goesOnWith 14 = .ok (.getfield 7, 3) := by decide +kernel
theorem dX12_goesOnWith_17 : decode cX12_goesOnWith 17 = .ok (.aload_n 0, 1) := by decide +kernel
theorem dX12_goesOnWith_18 : decode cX12_goesOnWith 18 = .ok (.getfield 267, 3) := by decide +kernel
theorem dX12_goesOnWith_21 : decode cX12_goesOnWith 21 = .ok (.caload, 1) := by decide +kernel
theorem dX12_goesOnWith_22 : decode cX12_goesOnWith 22 = .ok (.iload_n 1, 1) := by decide +kernel
theorem dX12_goesOnWith_23 : decode cX12_goesOnWith 23 = .ok (.if_icmp .ne 37, 3) := by decide +kernel
theorem dX12_goesOnWith_26 : decode cX12_goesOnWith 26 = .ok (.aload_n 0, 1) := by decide +kernel
theorem dX12_goesOnWith_27 : decode cX12_goesOnWith 27 = .ok (.getfield 7, 3) := by decide +kernel
theorem dX12_goesOnWith_30 : decode cX12_goesOnWith 30 = .ok (.aload_n 0, 1) := by decide +kernel
theorem dX12_goesOnWith_31 : decode cX12_goesOnWith 31 = .ok (.getfield 267, 3) := by decide +kernel
theorem dX12_goesOnWith_34 : decode cX12_goesOnWith 34 = .ok (.iconst 1, 1) := by decide +kernel
theorem dX12_goesOnWith_35 : decode cX12_goesOnWith 35 = .ok (.iadd, 1) := by decide +kernel
theorem dX12_goesOnWith_36 : decode cX12_goesOnWith 36 = .ok (.caload, 1) := by decide +kernel
theorem dX12_goesOnWith_37 : decode cX12_goesOnWith 37 = .ok (.iload_n 2, 1) := by decide +kernel
theorem dX12_goesOnWith_38 : decode cX12_goesOnWith 38 = .ok (.if_icmp .ne 22, 3) := by decide +kernel
theorem dX12_goesOnWith_41 : decode cX12_goesOnWith 41 = .ok (.aload_n 0, 1) := by decide +kernel
theorem dX12_goesOnWith_42 : decode cX12_goesOnWith 42 = .ok (.getfield 7, 3) := by decide +kernel
theorem dX12_goesOnWith_45 : decode cX12_goesOnWith 45 = .ok (.aload_n 0, 1) := by decide +kernel
theorem dX12_goesOnWith_46 : decode cX12_goesOnWith 46 = .ok (.getfield 267, 3) := by decide +kernel
theorem dX12_goesOnWith_49 : decode cX12_goesOnWith 49 = .ok (.iconst 2, 1) := by decide +kernel
theorem dX12_goesOnWith_50 : decode cX12_goesOnWith 50 = .ok (.iadd, 1) := by decide +kernel
theorem dX12_goesOnWith_51 : decode cX12_goesOnWith 51 = .ok (.caload, 1) := by decide +kernel
theorem dX12_goesOnWith_52 : decode cX12_goesOnWith 52 = .ok (.iload_n 3, 1) := by decide +kernel
theorem dX12_goesOnWith_53 : decode cX12_goesOnWith 53 = .ok (.if_icmp .ne 7, 3) := by decide +kernel
theorem dX12_goesOnWith_56 : decode cX12_goesOnWith 56 = .ok (.iconst 1, 1) := by decide +kernel
theorem dX12_goesOnWith_57 : decode cX12_goesOnWith 57 = .ok (.goto 4, 3) := by decide +kernel
theorem dX12_goesOnWith_60 : decode cX12_goesOnWith 60 = .ok (.iconst 0, 1) := by decide +kernel
theorem dX12_goesOnWith_61 : decode cX12_goesOnWith 61 = .ok (.ireturn, 1) := by decide +kernel
theorem dX12_resultHere_0 : decode cX12_resultHere 0 = .ok (.aload_n 0, 1) := by decide +kernel
theorem dX12_resultHere_1 : decode cX12_resultHere 1 = .ok (.invokevirtual 276, 3) := by decide +kernel
theorem dX12_resultHere_4 : decode cX12_resultHere 4 = .ok (.bipush 42, 2) := by decide +kernel
theorem dX12_resultHere_6 : decode cX12_resultHere 6 = .ok (.if_icmp .ne 5, 3) := by decide +kernel
theorem dX12_resultHere_9 : decode cX12_resultHere 9 = .ok (.iconst 0, 1) := by decide +kernel
theorem dX12_resultHere_10 : decode cX12_resultHere 10 = .ok (.ireturn, 1) := by decide +kernel
theorem dX12_resultHere_11 : decode cX12_resultHere 11 = .ok (.aload_n 0, 1) := by decide +kernel
theorem dX12_resultHere_12 : decode cX12_resultHere 12 = .ok (.bipush 49, 2) := by decide +kernel
theorem dX12_resultHere_14 : decode cX12_resultHere 14 = .ok (.bipush 45, 2) := by decide +kernel
theorem dX12_resultHere_16 : decode cX12_resultHere 16 = .ok (.bipush 48, 2) := by decide +kernel
theorem dX12_resultHere_18 : decode cX12_resultHere 18 = .ok (.invokevirtual 299, 3) := by decide +kernel
theorem dX12_resultHere_21 : decode cX12_resultHere 21 = .ok (.ifCond .eq 5, 3) := by decide +kernel
theorem dX12_resultHere_24 : decode cX12_resultHere 24 = .ok (.iconst 1, 1) := by decide +kernel
theorem dX12_resultHere_25 : decode cX12_resultHere 25 = .ok (.ireturn, 1) := by decide +kernel
theorem dX12_resultHere_26 : decode cX12_resultHere 26 = .ok (.aload_n 0, 1) := by decide +kernel
theorem dX12_resultHere_27 : decode cX12_resultHere 27 = .ok (.bipush 48, 2) := by decide +kernel
theorem dX12_resultHere_29 : decode cX12_resultHere 29 = .ok (.bipush 45, 2) := by decide +kernel
theorem dX12_resultHere_31 : decode cX12_resultHere 31 = .ok (.bipush 49, 2) := by decide +kernel
theorem dX12_resultHere_33 : decode cX12_resultHere 33 = .ok (.invokevirtual 299, 3) := by decide +kernel
theorem dX12_resultHere_36 : decode cX12_resultHere 36 = .ok (.ifCond .eq 5, 3) := by decide +kernel
theorem dX12_resultHere_39 : decode cX12_resultHere 39 = .ok (.iconst 2, 1) := by decide +kernel
theorem dX12_resultHere_40 : decode cX12_resultHere 40 = .ok (.ireturn, 1) := by decide +kernel
theorem dX12_resultHere_41 : decode cX12_resultHere 41 = .ok (.aload_n 0, 1) := by decide +kernel
theorem dX12_resultHere_42 : decode cX12_resultHere 42 = .ok (.bipush 49, 2) := by decide +kernel
theorem dX12_resultHere_44 : decode cX12_resultHere 44 = .ok (.bipush 47, 2) := by decide +kernel
theorem dX12_resultHere_46 : decode cX12_resultHere 46 = .ok (.bipush 50, 2) := by decide +kernel
theorem dX12_resultHere_48 : decode cX12_resultHere 48 = .ok (.invokevirtual 299, 3) := by decide +kernel
theorem dX12_resultHere_51 : decode cX12_resultHere 51 = .ok (.ifCond .eq 86, 3) := by decide +kernel
theorem dX12_resultHere_54 : decode cX12_resultHere 54 = .ok (.aload_n 0, 1) := by decide +kernel
theorem dX12_resultHere_55 : decode cX12_resultHere 55 = .ok (.getfield 267, 3) := by decide +kernel
theorem dX12_resultHere_58 : decode cX12_resultHere 58 = .ok (.bipush 6, 2) := by decide +kernel
theorem dX12_resultHere_60 : decode cX12_resultHere 60 = .ok (.iadd, 1) := by decide +kernel
theorem dX12_resultHere_61 : decode cX12_resultHere 61 = .ok (.aload_n 0, 1) := by decide +kernel
theorem dX12_resultHere_62 : decode cX12_resultHere 62 = .ok (.getfield 270, 3) := by decide +kernel
theorem dX12_resultHere_65 : decode cX12_resultHere 65 = .ok (.if_icmp .ge 72, 3) := by decide +kernel
theorem dX12_resultHere_68 : decode cX12_resultHere 68 = .ok (.aload_n 0, 1) := by decide +kernel
theorem dX12_resultHere_69 : decode cX12_resultHere 69 = .ok (.getfield 7, 3) := by decide +kernel
theorem dX12_resultHere_72 : decode cX12_resultHere 72 = .ok (.aload_n 0, 1) := by decide +kernel
theorem dX12_resultHere_73 : decode cX12_resultHere 73 = .ok (.getfield 267, 3) := by decide +kernel
theorem dX12_resultHere_76 : decode cX12_resultHere 76 = .ok (.iconst 3, 1) := by decide +kernel
theorem dX12_resultHere_77 : decode cX12_resultHere 77 = .ok (.iadd, 1) := by decide +kernel
theorem dX12_resultHere_78 : decode cX12_resultHere 78 = .ok (.caload, 1) := by decide +kernel
theorem dX12_resultHere_79 : decode cX12_resultHere 79 = .ok (.bipush 45, 2) := by decide +kernel
theorem dX12_resultHere_81 : decode cX12_resultHere 81 = .ok (.if_icmp .ne 56, 3) := by decide +kernel
theorem dX12_resultHere_84 : decode cX12_resultHere 84 = .ok (.aload_n 0, 1) := by decide +kernel
theorem dX12_resultHere_85 : decode cX12_resultHere 85 = .ok (.getfield 7, 3) := by decide +kernel
theorem dX12_resultHere_88 : decode cX12_resultHere 88 = .ok (.aload_n 0, 1) := by decide +kernel
theorem dX12_resultHere_89 : decode cX12_resultHere 89 = .ok (.getfield 267, 3) := by decide +kernel
theorem dX12_resultHere_92 : decode cX12_resultHere 92 = .ok (.iconst 4, 1) := by decide +kernel
theorem dX12_resultHere_93 : decode cX12_resultHere 93 = .ok (.iadd, 1) := by decide +kernel
theorem dX12_resultHere_94 : decode cX12_resultHere 94 = .ok (.caload, 1) := by decide +kernel
theorem dX12_resultHere_95 : decode cX12_resultHere 95 = .ok (.bipush 49, 2) := by decide +kernel
theorem dX12_resultHere_97 : decode cX12_resultHere 97 = .ok (.if_icmp .ne 40, 3) := by decide +kernel
theorem dX12_resultHere_100 : decode cX12_resultHere 100 = .ok (.aload_n 0, 1) := by decide +kernel
theorem dX12_resultHere_101 : decode cX12_resultHere 101 = .ok (.getfield 7, 3) := by decide +kernel
theorem dX12_resultHere_104 : decode cX12_resultHere 104 = .ok (.aload_n 0, 1) := by decide +kernel
theorem dX12_resultHere_105 : decode cX12_resultHere 105 = .ok (.getfield 267, 3) := by decide +kernel
theorem dX12_resultHere_108 : decode cX12_resultHere 108 = .ok (.iconst 5, 1) := by decide +kernel
theorem dX12_resultHere_109 : decode cX12_resultHere 109 = .ok (.iadd, 1) := by decide +kernel
theorem dX12_resultHere_110 : decode cX12_resultHere 110 = .ok (.caload, 1) := by decide +kernel
theorem dX12_resultHere_111 : decode cX12_resultHere 111 = .ok (.bipush 47, 2) := by decide +kernel
theorem dX12_resultHere_113 : decode cX12_resultHere 113 = .ok (.if_icmp .ne 24, 3) := by decide +kernel
theorem dX12_resultHere_116 : decode cX12_resultHere 116 = .ok (.aload_n 0, 1) := by decide +kernel
theorem dX12_resultHere_117 : decode cX12_resultHere 117 = .ok (.getfield 7, 3) := by decide +kernel
theorem dX12_resultHere_120 : decode cX12_resultHere 120 = .ok (.aload_n 0, 1) := by decide +kernel
theorem dX12_resultHere_121 : decode cX12_resultHere 121 = .ok (.getfield 267, 3) := by decide +kernel
theorem dX12_resultHere_124 : decode cX12_resultHere 124 = .ok (.bipush 6, 2) := by decide +kernel
theorem dX12_resultHere_126 : decode cX12_resultHere 126 = .ok (.iadd, 1) := by decide +kernel
theorem dX12_resultHere_127 : decode cX12_resultHere 127 = .ok (.caload, 1) := by decide +kernel
theorem dX12_resultHere_128 : decode cX12_resultHere 128 = .ok (.bipush 50, 2) := by decide +kernel
theorem dX12_resultHere_130 : decode cX12_resultHere 130 = .ok (.if_icmp .ne 7, 3) := by decide +kernel
theorem dX12_resultHere_133 : decode cX12_resultHere 133 = .ok (.iconst 1, 1) := by decide +kernel
theorem dX12_resultHere_134 : decode cX12_resultHere 134 = .ok (.goto 4, 3) := by decide +kernel
theorem dX12_resultHere_137 : decode cX12_resultHere 137 = .ok (.iconst 0, 1) := by decide +kernel
theorem dX12_resultHere_138 : decode cX12_resultHere 138 = .ok (.istore_n 1, 1) := by decide +kernel
theorem dX12_resultHere_139 : decode cX12_resultHere 139 = .ok (.iload_n 1, 1) := by decide +kernel
theorem dX12_resultHere_140 : decode cX12_resultHere 140 = .ok (.ifCond .eq 7, 3) := by decide +kernel
theorem dX12_resultHere_143 : decode cX12_resultHere 143 = .ok (.iconst 3, 1) := by decide +kernel
theorem dX12_resultHere_144 : decode cX12_resultHere 144 = .ok (.goto 4, 3) := by decide +kernel
theorem dX12_resultHere_147 : decode cX12_resultHere 147 = .ok (.iconst (-1), 1) := by decide +kernel
theorem dX12_resultHere_148 : decode cX12_resultHere 148 = .ok (.ireturn, 1) := by decide +kernel
theorem dX12_addMarkTo_0 : decode cX12_addMarkTo 0 = .ok (.sipush 301, 3) := by decide +kernel
theorem dX12_addMarkTo_3 : decode cX12_addMarkTo 3 = .ok (.iload_n 1, 1) := by decide +kernel
theorem dX12_addMarkTo_4 : decode cX12_addMarkTo 4 = .ok (.imul, 1) := by decide +kernel
theorem dX12_addMarkTo_5 : decode cX12_addMarkTo 5 = .ok (.iload_n 2, 1) := by decide +kernel
theorem dX12_addMarkTo_6 : decode cX12_addMarkTo 6 = .ok (.iadd, 1) := by decide +kernel
theorem dX12_addMarkTo_7 : decode cX12_addMarkTo 7 = .ok (.istore 4, 2) := by decide +kernel
theorem dX12_addMarkTo_9 : decode cX12_addMarkTo 9 = .ok (.aload_n 0, 1) := by decide +kernel
theorem dX12_addMarkTo_10 : decode cX12_addMarkTo 10 = .ok (.getfield 36, 3) := by decide +kernel
theorem dX12_addMarkTo_13 : decode cX12_addMarkTo 13 = .ok (.iconst 4, 1) := by decide +kernel
theorem dX12_addMarkTo_14 : decode cX12_addMarkTo 14 = .ok (.iload 4, 2) := by decide +kernel
theorem dX12_addMarkTo_16 : decode cX12_addMarkTo 16 = .ok (.imul, 1) := by decide +kernel
theorem dX12_addMarkTo_17 : decode cX12_addMarkTo 17 = .ok (.aload_n 0, 1) := by decide +kernel
theorem dX12_addMarkTo_18 : decode cX12_addMarkTo 18 = .ok (.getfield 33, 3) := by decide +kernel
theorem dX12_addMarkTo_21 : decode cX12_addMarkTo 21 = .ok (.iload 4, 2) := by decide +kernel
theorem dX12_addMarkTo_23 : decode cX12_addMarkTo 23 = .ok (.iaload, 1) := by decide +kernel
theorem dX12_addMarkTo_24 : decode cX12_addMarkTo 24 = .ok (.iadd, 1) := by decide +kernel
theorem dX12_addMarkTo_25 : decode cX12_addMarkTo 25 = .ok (.iload_n 3, 1) := by decide +kernel
theorem dX12_addMarkTo_26 : decode cX12_addMarkTo 26 = .ok (.iastore, 1) := by decide +kernel
theorem dX12_addMarkTo_27 : decode cX12_addMarkTo 27 = .ok (.aload_n 0, 1) := by decide +kernel
theorem dX12_addMarkTo_28 : decode cX12_addMarkTo 28 = .ok (.getfield 33, 3) := by decide +kernel
theorem dX12_addMarkTo_31 : decode cX12_addMarkTo 31 = .ok (.iload 4, 2) := by decide +kernel
theorem dX12_addMarkTo_33 : decode cX12_addMarkTo 33 = .ok (.dup2, 1) := by decide +kernel
theorem dX12_addMarkTo_34 : decode cX12_addMarkTo 34 = .ok (.iaload, 1) := by decide +kernel
theorem dX12_addMarkTo_35 : decode cX12_addMarkTo 35 = .ok (.iconst 1, 1) := by decide +kernel
theorem dX12_addMarkTo_36 : decode cX12_addMarkTo 36 = .ok (.iadd, 1) := by decide +kernel
theorem dX12_addMarkTo_37 : decode cX12_addMarkTo 37 = .ok (.iastore, 1) := by decide +kernel
theorem dX12_addMarkTo_38 : decode cX12_addMarkTo 38 = .ok (.return_, 1) := by decide +kernel
theorem dX12_readMarks_0 : decode cX12_readMarks 0 = .ok (.aload_n 0, 1) := by decide +kernel
theorem dX12_readMarks_1 : decode cX12_readMarks 1 = .ok (.invokevirtual 273, 3) := by decide +kernel
theorem dX12_readMarks_4 : decode cX12_readMarks 4 = .ok (.aload_n 0, 1) := by decide +kernel
theorem dX12_readMarks_5 : decode cX12_readMarks 5 = .ok (.invokevirtual 276, 3) := by decide +kernel
theorem dX12_readMarks_8 : decode cX12_readMarks 8 = .ok (.bipush 33, 2) := by decide +kernel
theorem dX12_readMarks_10 : decode cX12_readMarks 10 = .ok (.if_icmp .eq 12, 3) := by decide +kernel
theorem dX12_readMarks_13 : decode cX12_readMarks 13 = .ok (.aload_n 0, 1) := by decide +kernel
theorem dX12_readMarks_14 : decode cX12_readMarks 14 = .ok (.invokevirtual 276, 3) := by decide +kernel
theorem dX12_readMarks_17 : decode cX12_readMarks 17 = .ok (.bipush 63, 2) := by decide +kernel
theorem dX12_readMarks_19 : decode cX12_readMarks 19 = .ok (.if_icmp .ne 125, 3) := by decide +kernel
theorem dX12_readMarks_22 : decode cX12_readMarks 22 = .ok (.aload_n 0, 1) := by decide +kernel
theorem dX12_readMarks_23 : decode cX12_readMarks 23 = .ok (.invokevirtual 276, 3) := by decide +kernel
theorem dX12_readMarks_26 : decode cX12_readMarks 26 = .ok (.bipush 33, 2) := by decide +kernel
theorem dX12_readMarks_28 : decode cX12_readMarks 28 = .ok (.if_icmp .ne 7, 3) := by decide +kernel
theorem dX12_readMarks_31 : decode cX12_readMarks 31 = .ok (.iconst 1, 1) := by decide +kernel
theorem dX12_readMarks_32 : decode cX12_readMarks 32 = .ok (.goto 4, 3) := by decide +kernel
theorem dX12_readMarks_35 : decode cX12_readMarks 35 = .ok (.iconst 0, 1) := by decide +kernel
theorem dX12_readMarks_36 : decode cX12_readMarks 36 = .ok (.istore_n 3, 1) := by decide +kernel
theorem dX12_readMarks_37 : decode cX12_readMarks 37 = .ok (.aload_n 0, 1) := by decide +kernel
theorem dX12_readMarks_38 : decode cX12_readMarks 38 = .ok (.dup, 1) := by decide +kernel
theorem dX12_readMarks_39 : decode cX12_readMarks 39 = .ok (.getfield 267, 3) := by decide +kernel
theorem dX12_readMarks_42 : decode cX12_readMarks 42 = .ok (.iconst 1, 1) := by decide +kernel
theorem dX12_readMarks_43 : decode cX12_readMarks 43 = .ok (.iadd, 1) := by decide +kernel
theorem dX12_readMarks_44 : decode cX12_readMarks 44 = .ok (.putfield 267, 3) := by decide +kernel
theorem dX12_readMarks_47 : decode cX12_readMarks 47 = .ok (.iload_n 3, 1) := by decide +kernel
theorem dX12_readMarks_48 : decode cX12_readMarks 48 = .ok (.ifCond .eq 7, 3) := by decide +kernel
theorem dX12_readMarks_51 : decode cX12_readMarks 51 = .ok (.iconst 1, 1) := by decide +kernel
theorem dX12_readMarks_52 : decode cX12_readMarks 52 = .ok (.goto 4, 3) := by decide +kernel
theorem dX12_readMarks_55 : decode cX12_readMarks 55 = .ok (.iconst 2, 1) := by decide +kernel
theorem dX12_readMarks_56 : decode cX12_readMarks 56 = .ok (.istore 4, 2) := by decide +kernel
theorem dX12_readMarks_58 : decode cX12_readMarks 58 = .ok (.aload_n 0, 1) := by decide +kernel
theorem dX12_readMarks_59 : decode cX12_readMarks 59 = .ok (.invokevirtual 276, 3) := by decide +kernel
theorem dX12_readMarks_62 : decode cX12_readMarks 62 = .ok (.bipush 33, 2) := by decide +kernel
theorem dX12_readMarks_64 : decode cX12_readMarks 64 = .ok (.if_icmp .eq 12, 3) := by decide +kernel
theorem dX12_readMarks_67 : decode cX12_readMarks 67 = .ok (.aload_n 0, 1) := by decide +kernel
theorem dX12_readMarks_68 : decode cX12_readMarks 68 = .ok (.invokevirtual 276, 3) := by decide +kernel
theorem dX12_readMarks_71 : decode cX12_readMarks 71 = .ok (.bipush 63, 2) := by decide +kernel
theorem dX12_readMarks_73 : decode cX12_readMarks 73 = .ok (.if_icmp .ne 59, 3) := by decide +kernel
theorem dX12_readMarks_76 : decode cX12_readMarks 76 = .ok (.aload_n 0, 1) := by decide +kernel
theorem dX12_readMarks_77 : decode cX12_readMarks 77 = .ok (.invokevirtual 276, 3) := by decide +kernel
theorem dX12_readMarks_80 : decode cX12_readMarks 80 = .ok (.bipush 33, 2) := by decide +kernel
theorem dX12_readMarks_82 : decode cX12_readMarks 82 = .ok (.if_icmp .ne 7, 3) := by decide +kernel
theorem dX12_readMarks_85 : decode cX12_readMarks 85 = .ok (.iconst 1, 1) := by decide +kernel
theorem dX12_readMarks_86 : decode cX12_readMarks 86 = .ok (.goto 4, 3) := by decide +kernel
theorem dX12_readMarks_89 : decode cX12_readMarks 89 = .ok (.iconst 0, 1) := by decide +kernel
theorem dX12_readMarks_90 : decode cX12_readMarks 90 = .ok (.istore 5, 2) := by decide +kernel
theorem dX12_readMarks_92 : decode cX12_readMarks 92 = .ok (.iload_n 3, 1) := by decide +kernel
theorem dX12_readMarks_93 : decode cX12_readMarks 93 = .ok (.ifCond .eq 16, 3) := by decide +kernel
theorem dX12_readMarks_96 : decode cX12_readMarks 96 = .ok (.iload 5, 2) := by decide +kernel
theorem dX12_readMarks_98 : decode cX12_readMarks 98 = .ok (.ifCond .eq 7, 3) := by decide +kernel
theorem dX12_readMarks_101 : decode cX12_readMarks 101 = .ok (.iconst 3, 1) := by decide +kernel
theorem dX12_readMarks_102 : decode cX12_readMarks 102 = .ok (.goto 18, 3) := by decide +kernel
theorem dX12_readMarks_105 : decode cX12_readMarks 105 = .ok (.iconst 5, 1) := by decide +kernel
theorem dX12_readMarks_106 : decode cX12_readMarks 106 = .ok (.goto 14, 3) := by decide +kernel
theorem dX12_readMarks_109 : decode cX12_readMarks 109 = .ok (.iload 5, 2) := by decide +kernel
theorem dX12_readMarks_111 : decode cX12_readMarks 111 = .ok (.ifCond .eq 8, 3) := by decide +kernel
theorem dX12_readMarks_114 : decode cX12_readMarks 114 = .ok (.bipush 6, 2) := by decide +kernel
theorem dX12_readMarks_116 : decode cX12_readMarks 116 = .ok (.goto 4, 3) := by decide +kernel
theorem dX12_readMarks_119 : decode cX12_readMarks 119 = .ok (.iconst 4, 1) := by decide +kernel
theorem dX12_readMarks_120 : decode cX12_readMarks 120 = .ok (.istore 4, 2) := by decide +kernel
theorem dX12_readMarks_122 : decode cX12_readMarks 122 = .ok (.aload_n 0, 1) := by decide +kernel
theorem dX12_readMarks_123 : decode cX12_readMarks 123 = .ok (.dup, 1) := by decide +kernel
theorem dX12_readMarks_124 : decode cX12_readMarks 124 = .ok (.getfield 267, 3) := by decide +kernel
theorem dX12_readMarks_127 : decode cX12_readMarks 127 = .ok (.iconst 1, 1) := by decide +kernel
theorem dX12_readMarks_128 : decode cX12_readMarks 128 = .ok (.iadd, 1) := by decide +kernel
theorem dX12_readMarks_129 : decode cX12_readMarks 129 = .ok (.putfield 267, 3) := by decide +kernel
theorem dX12_readMarks_132 : decode cX12_readMarks 132 = .ok (.aload_n 0, 1) := by decide +kernel
theorem dX12_readMarks_133 : decode cX12_readMarks 133 = .ok (.iload_n 1, 1) := by decide +kernel
theorem dX12_readMarks_134 : decode cX12_readMarks 134 = .ok (.iload_n 2, 1) := by decide +kernel
theorem dX12_readMarks_135 : decode cX12_readMarks 135 = .ok (.iload 4, 2) := by decide +kernel
theorem dX12_readMarks_137 : decode cX12_readMarks 137 = .ok (.invokevirtual 303, 3) := by decide +kernel
theorem dX12_readMarks_140 : decode cX12_readMarks 140 = .ok (.aload_n 0, 1) := by decide +kernel
theorem dX12_readMarks_141 : decode cX12_readMarks 141 = .ok (.invokevirtual 273, 3) := by decide +kernel
theorem dX12_readMarks_144 : decode cX12_readMarks 144 = .ok (.aload_n 0, 1) := by decide +kernel
theorem dX12_readMarks_145 : decode cX12_readMarks 145 = .ok (.invokevirtual 276, 3) := by decide +kernel
theorem dX12_readMarks_148 : decode cX12_readMarks 148 = .ok (.bipush 36, 2) := by decide +kernel
theorem dX12_readMarks_150 : decode cX12_readMarks 150 = .ok (.if_icmp .ne 141, 3) := by decide +kernel
theorem dX12_readMarks_153 : decode cX12_readMarks 153 = .ok (.aload_n 0, 1) := by decide +kernel
theorem dX12_readMarks_154 : decode cX12_readMarks 154 = .ok (.getfield 267, 3) := by decide +kernel
theorem dX12_readMarks_157 : decode cX12_readMarks 157 = .ok (.istore_n 3, 1) := by decide +kernel
theorem dX12_readMarks_158 : decode cX12_readMarks 158 = .ok (.aload_n 0, 1) := by decide +kernel
theorem dX12_readMarks_159 : decode cX12_readMarks 159 = .ok (.dup, 1) := by decide +kernel
theorem dX12_readMarks_160 : decode cX12_readMarks 160 = .ok (.getfield 267, 3) := by decide +kernel
theorem dX12_readMarks_163 : decode cX12_readMarks 163 = .ok (.iconst 1, 1) := by decide +kernel
theorem dX12_readMarks_164 : decode cX12_readMarks 164 = .ok (.iadd, 1) := by decide +kernel
theorem dX12_readMarks_165 : decode cX12_readMarks 165 = .ok (.putfield 267, 3) := by decide +kernel
theorem dX12_readMarks_168 : decode cX12_readMarks 168 = .ok (.iconst 0, 1) := by decide +kernel
theorem dX12_readMarks_169 : decode cX12_readMarks 169 = .ok (.istore 4, 2) := by decide +kernel
theorem dX12_readMarks_171 : decode cX12_readMarks 171 = .ok (.iconst 0, 1) := by decide +kernel
theorem dX12_readMarks_172 : decode cX12_readMarks 172 = .ok (.istore 5, 2) := by decide +kernel
theorem dX12_readMarks_174 : decode cX12_readMarks 174 = .ok (.aload_n 0, 1) := by decide +kernel
theorem dX12_readMarks_175 : decode cX12_readMarks 175 = .ok (.invokevirtual 276, 3) := by decide +kernel
theorem dX12_readMarks_178 : decode cX12_readMarks 178 = .ok (.invokestatic 282, 3) := by decide +kernel
theorem dX12_readMarks_181 : decode cX12_readMarks 181 = .ok (.ifCond .eq 40, 3) := by decide +kernel
theorem dX12_readMarks_184 : decode cX12_readMarks 184 = .ok (.iload 5, 2) := by decide +kernel
theorem dX12_readMarks_186 : decode cX12_readMarks 186 = .ok (.iconst 3, 1) := by decide +kernel
theorem dX12_readMarks_187 : decode cX12_readMarks 187 = .ok (.if_icmp .ge 34, 3) := by decide +kernel
theorem dX12_readMarks_190 : decode cX12_readMarks 190 = .ok (.bipush 10, 2) := by decide +kernel
theorem dX12_readMarks_192 : decode cX12_readMarks 192 = .ok (.iload 4, 2) := by decide +kernel
theorem dX12_readMarks_194 : decode cX12_readMarks 194 = .ok (.imul, 1) := by decide +kernel
theorem dX12_readMarks_195 : decode cX12_readMarks 195 = .ok (.aload_n 0, 1) := by decide +kernel
theorem dX12_readMarks_196 : decode cX12_readMarks 196 = .ok (.invokevirtual 276, 3) := by decide +kernel
theorem dX12_readMarks_199 : decode cX12_readMarks 199 = .ok (.iadd, 1) := by decide +kernel
theorem dX12_readMarks_200 : decode cX12_readMarks 200 = .ok (.bipush 48, 2) := by decide +kernel
theorem dX12_readMarks_202 : decode cX12_readMarks 202 = .ok (.isub, 1) := by decide +kernel
theorem dX12_readMarks_203 : decode cX12_readMarks 203 = .ok (.istore 4, 2) := by decide +kernel
theorem dX12_readMarks_205 : decode cX12_readMarks 205 = .ok (.iinc 5 1, 3) := by decide +kernel
theorem dX12_readMarks_208 : decode cX12_readMarks 208 = .ok (.aload_n 0, 1) := by decide +kernel
theorem dX12_readMarks_209 : decode cX12_readMarks 209 = .ok (.dup, 1) := by decide +kernel
theorem dX12_readMarks_210 : decode cX12_readMarks 210 = .ok (.getfield 267, 3) := by decide +kernel
theorem dX12_readMarks_213 : decode cX12_readMarks 213 = .ok (.iconst 1, 1) := by decide +kernel
theorem dX12_readMarks_214 : decode cX12_readMarks 214 = .ok (.iadd, 1) := by decide +kernel
theorem dX12_readMarks_215 : decode cX12_readMarks 215 = .ok (.putfield 267, 3) := by decide +kernel
theorem dX12_readMarks_218 : decode cX12_readMarks 218 = .ok (.goto (-44), 3) := by decide +kernel
theorem dX12_readMarks_221 : decode cX12_readMarks 221 = .ok (.iload 5, 2) := by decide +kernel
theorem dX12_readMarks_223 : decode cX12_readMarks 223 = .ok (.ifCond .eq 13, 3) := by decide +kernel
theorem dX12_readMarks_226 : decode cX12_readMarks 226 = .ok (.aload_n 0, 1) := by decide +kernel
theorem dX12_readMarks_227 : decode cX12_readMarks 227 = .ok (.invokevirtual 276, 3) := by decide +kernel
theorem dX12_readMarks_230 : decode cX12_readMarks 230 = .ok (.invokestatic 282, 3) := by decide +kernel
theorem dX12_readMarks_233 : decode cX12_readMarks 233 = .ok (.ifCond .eq 12, 3) := by decide +kernel
theorem dX12_readMarks_236 : decode cX12_readMarks 236 = .ok (.iconst 1, 1) := by decide +kernel
theorem dX12_readMarks_237 : decode cX12_readMarks 237 = .ok (.aload_n 0, 1) := by decide +kernel
theorem dX12_readMarks_238 : decode cX12_readMarks 238 = .ok (.getfield 267, 3) := by decide +kernel
theorem dX12_readMarks_241 : decode cX12_readMarks 241 = .ok (.invokestatic 285, 3) := by decide +kernel
theorem dX12_readMarks_244 : decode cX12_readMarks 244 = .ok (.ireturn, 1) := by decide +kernel
theorem dX12_readMarks_245 : decode cX12_readMarks 245 = .ok (.iload 4, 2) := by decide +kernel
theorem dX12_readMarks_247 : decode cX12_readMarks 247 = .ok (.sipush 255, 3) := by decide +kernel
theorem dX12_readMarks_250 : decode cX12_readMarks 250 = .ok (.if_icmp .gt 19, 3) := by decide +kernel
theorem dX12_readMarks_253 : decode cX12_readMarks 253 = .ok (.aload_n 0, 1) := by decide +kernel
theorem dX12_readMarks_254 : decode cX12_readMarks 254 = .ok (.getfield 33, 3) := by decide +kernel
theorem dX12_readMarks_257 : decode cX12_readMarks 257 = .ok (.sipush 301, 3) := by decide +kernel
theorem dX12_readMarks_260 : decode cX12_readMarks 260 = .ok (.iload_n 1, 1) := by decide +kernel
theorem dX12_readMarks_261 : decode cX12_readMarks 261 = .ok (.imul, 1) := by decide +kernel
theorem dX12_readMarks_262 : decode cX12_readMarks 262 = .ok (.iload_n 2, 1) := by decide +kernel
theorem dX12_readMarks_263 : decode cX12_readMarks 263 = .ok (.iadd, 1) := by decide +kernel
theorem dX12_readMarks_264 : decode cX12_readMarks 264 = .ok (.iaload, 1) := by decide +kernel
theorem dX12_readMarks_265 : decode cX12_readMarks 265 = .ok (.iconst 4, 1) := by decide +kernel
theorem dX12_readMarks_266 : decode cX12_readMarks 266 = .ok (.if_icmp .ne 10, 3) := by decide +kernel
theorem dX12_readMarks_269 : decode cX12_readMarks 269 = .ok (.bipush 8, 2) := by decide +kernel
theorem dX12_readMarks_271 : decode cX12_readMarks 271 = .ok (.iload_n 3, 1) := by decide +kernel
theorem dX12_readMarks_272 : decode cX12_readMarks 272 = .ok (.invokestatic 285, 3) := by decide +kernel
theorem dX12_readMarks_275 : decode cX12_readMarks 275 = .ok (.ireturn, 1) := by decide +kernel
theorem dX12_readMarks_276 : decode cX12_readMarks 276 = .ok (.aload_n 0, 1) := by decide +kernel
theorem dX12_readMarks_277 : decode cX12_readMarks 277 = .ok (.iload_n 1, 1) := by decide +kernel
theorem dX12_readMarks_278 : decode cX12_readMarks 278 = .ok (.iload_n 2, 1) := by decide +kernel
theorem dX12_readMarks_279 : decode cX12_readMarks 279 = .ok (.iload 4, 2) := by decide +kernel
theorem dX12_readMarks_281 : decode cX12_readMarks 281 = .ok (.invokevirtual 303, 3) := by decide +kernel
theorem dX12_readMarks_284 : decode cX12_readMarks 284 = .ok (.aload_n 0, 1) := by decide +kernel
theorem dX12_readMarks_285 : decode cX12_readMarks 285 = .ok (.invokevirtual 273, 3) := by decide +kernel
theorem dX12_readMarks_288 : decode cX12_readMarks 288 = .ok (.goto (-144), 3) := by decide +kernel
theorem dX12_readMarks_291 : decode cX12_readMarks 291 = .ok (.iconst 0, 1) := by decide +kernel
theorem dX12_readMarks_292 : decode cX12_readMarks 292 = .ok (.ireturn, 1) := by decide +kernel
theorem dX12_readMoveNumber_0 : decode cX12_readMoveNumber 0 = .ok (.aload_n 0, 1) := by decide +kernel
theorem dX12_readMoveNumber_1 : decode cX12_readMoveNumber 1 = .ok (.invokevirtual 276, 3) := by decide +kernel
theorem dX12_readMoveNumber_4 : decode cX12_readMoveNumber 4 = .ok (.invokestatic 282, 3) := by decide +kernel
theorem dX12_readMoveNumber_7 : decode cX12_readMoveNumber 7 = .ok (.ifCond .ne 5, 3) := by decide +kernel
theorem dX12_readMoveNumber_10 : decode cX12_readMoveNumber 10 = .ok (.iconst 0, 1) := by decide +kernel
theorem dX12_readMoveNumber_11 : decode cX12_readMoveNumber 11 = .ok (.ireturn, 1) := by decide +kernel
theorem dX12_readMoveNumber_12 : decode cX12_readMoveNumber 12 = .ok (.aload_n 0, 1) := by decide +kernel
theorem dX12_readMoveNumber_13 : decode cX12_readMoveNumber 13 = .ok (.getfield 267, 3) := by decide +kernel
theorem dX12_readMoveNumber_16 : decode cX12_readMoveNumber 16 = .ok (.istore_n 1, 1) := by decide +kernel
theorem dX12_readMoveNumber_17 : decode cX12_readMoveNumber 17 = .ok (.iconst 0, 1) := by decide +kernel
theorem dX12_readMoveNumber_18 : decode cX12_readMoveNumber 18 = .ok (.istore_n 2, 1) := by decide +kernel
theorem dX12_readMoveNumber_19 : decode cX12_readMoveNumber 19 = .ok (.iconst 0, 1) := by decide +kernel
theorem dX12_readMoveNumber_20 : decode cX12_readMoveNumber 20 = .ok (.istore_n 3, 1) := by decide +kernel
theorem dX12_readMoveNumber_21 : decode cX12_readMoveNumber 21 = .ok (.aload_n 0, 1) := by decide +kernel
theorem dX12_readMoveNumber_22 : decode cX12_readMoveNumber 22 = .ok (.invokevirtual 276, 3) := by decide +kernel
theorem dX12_readMoveNumber_25 : decode cX12_readMoveNumber 25 = .ok (.invokestatic 282, 3) := by decide +kernel
theorem dX12_readMoveNumber_28 : decode cX12_readMoveNumber 28 = .ok (.ifCond .eq 37, 3) := by decide +kernel
theorem dX12_readMoveNumber_31 : decode cX12_readMoveNumber 31 = .ok (.iload_n 3, 1) := by decide +kernel
theorem dX12_readMoveNumber_32 : decode cX12_readMoveNumber 32 = .ok (.iconst 4, 1) := by decide +kernel
theorem dX12_readMoveNumber_33 : decode cX12_readMoveNumber 33 = .ok (.if_icmp .ge 32, 3) := by decide +kernel
theorem dX12_readMoveNumber_36 : decode cX12_readMoveNumber 36 = .ok (.bipush 10, 2) := by decide +kernel
theorem dX12_readMoveNumber_38 : decode cX12_readMoveNumber 38 = .ok (.iload_n 2, 1) := by decide +kernel
theorem dX12_readMoveNumber_39 : decode cX12_readMoveNumber 39 = .ok (.imul, 1) := by decide +kernel
theorem dX12_readMoveNumber_40 : decode cX12_readMoveNumber 40 = .ok (.aload_n 0, 1) := by decide +kernel
theorem dX12_readMoveNumber_41 : decode cX12_readMoveNumber 41 = .ok (.invokevirtual 276, 3) := by decide +kernel
theorem dX12_readMoveNumber_44 : decode cX12_readMoveNumber 44 = .ok (.iadd, 1) := by decide +kernel
theorem dX12_readMoveNumber_45 : decode cX12_readMoveNumber 45 = .ok (.bipush 48, 2) := by decide +kernel
theorem dX12_readMoveNumber_47 : decode cX12_readMoveNumber 47 = .ok (.isub, 1) := by decide +kernel
theorem dX12_readMoveNumber_48 : decode cX12_readMoveNumber 48 = .ok (.istore_n 2, 1) := by decide +kernel
theorem dX12_readMoveNumber_49 : decode cX12_readMoveNumber 49 = .ok (.iinc 3 1, 3) := by decide +kernel
theorem dX12_readMoveNumber_52 : decode cX12_readMoveNumber 52 = .ok (.aload_n 0, 1) := by decide +kernel
theorem dX12_readMoveNumber_53 : decode cX12_readMoveNumber 53 = .ok (.dup, 1) := by decide +kernel
theorem dX12_readMoveNumber_54 : decode cX12_readMoveNumber 54 = .ok (.getfield 267, 3) := by decide +kernel
theorem dX12_readMoveNumber_57 : decode cX12_readMoveNumber 57 = .ok (.iconst 1, 1) := by decide +kernel
theorem dX12_readMoveNumber_58 : decode cX12_readMoveNumber 58 = .ok (.iadd, 1) := by decide +kernel
theorem dX12_readMoveNumber_59 : decode cX12_readMoveNumber 59 = .ok (.putfield 267, 3) := by decide +kernel
theorem dX12_readMoveNumber_62 : decode cX12_readMoveNumber 62 = .ok (.goto (-41), 3) := by decide +kernel
theorem dX12_readMoveNumber_65 : decode cX12_readMoveNumber 65 = .ok (.aload_n 0, 1) := by decide +kernel
theorem dX12_readMoveNumber_66 : decode cX12_readMoveNumber 66 = .ok (.invokevirtual 276, 3) := by decide +kernel
theorem dX12_readMoveNumber_69 : decode cX12_readMoveNumber 69 = .ok (.bipush 46, 2) := by decide +kernel
theorem dX12_readMoveNumber_71 : decode cX12_readMoveNumber 71 = .ok (.if_icmp .ne 16, 3) := by decide +kernel
theorem dX12_readMoveNumber_74 : decode cX12_readMoveNumber 74 = .ok (.aload_n 0, 1) := by decide +kernel
theorem dX12_readMoveNumber_75 : decode cX12_readMoveNumber 75 = .ok (.dup, 1) := by decide +kernel
theorem dX12_readMoveNumber_76 : decode cX12_readMoveNumber 76 = .ok (.getfield 267, 3) := by decide +kernel
theorem dX12_readMoveNumber_79 : decode cX12_readMoveNumber 79 = .ok (.iconst 1, 1) := by decide +kernel
theorem dX12_readMoveNumber_80 : decode cX12_readMoveNumber 80 = .ok (.iadd, 1) := by decide +kernel
theorem dX12_readMoveNumber_81 : decode cX12_readMoveNumber 81 = .ok (.putfield 267, 3) := by decide +kernel
theorem dX12_readMoveNumber_84 : decode cX12_readMoveNumber 84 = .ok (.goto (-19), 3) := by decide +kernel
theorem dX12_readMoveNumber_87 : decode cX12_readMoveNumber 87 = .ok (.iload_n 2, 1) := by decide +kernel
theorem dX12_readMoveNumber_88 : decode cX12_readMoveNumber 88 = .ok (.aload_n 0, 1) := by decide +kernel
theorem dX12_readMoveNumber_89 : decode cX12_readMoveNumber 89 = .ok (.getfield 133, 3) := by decide +kernel
theorem dX12_readMoveNumber_92 : decode cX12_readMoveNumber 92 = .ok (.if_icmp .eq 10, 3) := by decide +kernel
theorem dX12_readMoveNumber_95 : decode cX12_readMoveNumber 95 = .ok (.bipush 7, 2) := by decide +kernel
theorem dX12_readMoveNumber_97 : decode cX12_readMoveNumber 97 = .ok (.iload_n 1, 1) := by decide +kernel
theorem dX12_readMoveNumber_98 : decode cX12_readMoveNumber 98 = .ok (.invokestatic 285, 3) := by decide +kernel
theorem dX12_readMoveNumber_101 : decode cX12_readMoveNumber 101 = .ok (.ireturn, 1) := by decide +kernel
theorem dX12_readMoveNumber_102 : decode cX12_readMoveNumber 102 = .ok (.aload_n 0, 1) := by decide +kernel
theorem dX12_readMoveNumber_103 : decode cX12_readMoveNumber 103 = .ok (.invokevirtual 273, 3) := by decide +kernel
theorem dX12_readMoveNumber_106 : decode cX12_readMoveNumber 106 = .ok (.iconst 0, 1) := by decide +kernel
theorem dX12_readMoveNumber_107 : decode cX12_readMoveNumber 107 = .ok (.ireturn, 1) := by decide +kernel
theorem dX12_readMove_0 : decode cX12_readMove 0 = .ok (.aload_n 0, 1) := by decide +kernel
theorem dX12_readMove_1 : decode cX12_readMove 1 = .ok (.getfield 267, 3) := by decide +kernel
theorem dX12_readMove_4 : decode cX12_readMove 4 = .ok (.istore_n 3, 1) := by decide +kernel
theorem dX12_readMove_5 : decode cX12_readMove 5 = .ok (.aload_n 0, 1) := by decide +kernel
theorem dX12_readMove_6 : decode cX12_readMove 6 = .ok (.invokevirtual 276, 3) := by decide +kernel
theorem dX12_readMove_9 : decode cX12_readMove 9 = .ok (.invokestatic 279, 3) := by decide +kernel
theorem dX12_readMove_12 : decode cX12_readMove 12 = .ok (.ifCond .ne 13, 3) := by decide +kernel
theorem dX12_readMove_15 : decode cX12_readMove 15 = .ok (.iconst 1, 1) := by decide +kernel
theorem dX12_readMove_16 : decode cX12_readMove 16 = .ok (.aload_n 0, 1) := by decide +kernel
theorem dX12_readMove_17 : decode cX12_readMove 17 = .ok (.getfield 267, 3) := by decide +kernel
theorem dX12_readMove_20 : decode cX12_readMove 20 = .ok (.invokestatic 285, 3) := by decide +kernel
theorem dX12_readMove_23 : decode cX12_readMove 23 = .ok (.ineg, 1) := by decide +kernel
theorem dX12_readMove_24 : decode cX12_readMove 24 = .ok (.ireturn, 1) := by decide +kernel
theorem dX12_readMove_25 : decode cX12_readMove 25 = .ok (.aload_n 0, 1) := by decide +kernel
theorem dX12_readMove_26 : decode cX12_readMove 26 = .ok (.invokevirtual 276, 3) := by decide +kernel
theorem dX12_readMove_29 : decode cX12_readMove 29 = .ok (.invokestatic 279, 3) := by decide +kernel
theorem dX12_readMove_32 : decode cX12_readMove 32 = .ok (.ifCond .ne 49, 3) := by decide +kernel
theorem dX12_readMove_35 : decode cX12_readMove 35 = .ok (.aload_n 0, 1) := by decide +kernel
theorem dX12_readMove_36 : decode cX12_readMove 36 = .ok (.invokevirtual 276, 3) := by decide +kernel
theorem dX12_readMove_39 : decode cX12_readMove 39 = .ok (.invokestatic 282, 3) := by decide +kernel
theorem dX12_readMove_42 : decode cX12_readMove 42 = .ok (.ifCond .ne 39, 3) := by decide +kernel
theorem dX12_readMove_45 : decode cX12_readMove 45 = .ok (.aload_n 0, 1) := by decide +kernel
theorem dX12_readMove_46 : decode cX12_readMove 46 = .ok (.invokevirtual 276, 3) := by decide +kernel
theorem dX12_readMove_49 : decode cX12_readMove 49 = .ok (.bipush 61, 2) := by decide +kernel
theorem dX12_readMove_51 : decode cX12_readMove 51 = .ok (.if_icmp .eq 30, 3) := by decide +kernel
theorem dX12_readMove_54 : decode cX12_readMove 54 = .ok (.aload_n 0, 1) := by decide +kernel
theorem dX12_readMove_55 : decode cX12_readMove 55 = .ok (.invokevirtual 276, 3) := by decide +kernel
theorem dX12_readMove_58 : decode cX12_readMove 58 = .ok (.bipush 45, 2) := by decide +kernel
theorem dX12_readMove_60 : decode cX12_readMove 60 = .ok (.if_icmp .eq 21, 3) := by decide +kernel
theorem dX12_readMove_63 : decode cX12_readMove 63 = .ok (.aload_n 0, 1) := by decide +kernel
theorem dX12_readMove_64 : decode cX12_readMove 64 = .ok (.invokevirtual 276, 3) := by decide +kernel
theorem dX12_readMove_67 : decode cX12_readMove 67 = .ok (.bipush 43, 2) := by decide +kernel
theorem dX12_readMove_69 : decode cX12_readMove 69 = .ok (.if_icmp .eq 12, 3) := by decide +kernel
theorem dX12_readMove_72 : decode cX12_readMove 72 = .ok (.aload_n 0, 1) := by decide +kernel
theorem dX12_readMove_73 : decode cX12_readMove 73 = .ok (.invokevirtual 276, 3) := by decide +kernel
theorem dX12_readMove_76 : decode cX12_readMove 76 = .ok (.bipush 35, 2) := by decide +kernel
theorem dX12_readMove_78 : decode cX12_readMove 78 = .ok (.if_icmp .ne 16, 3) := by decide +kernel
theorem dX12_readMove_81 : decode cX12_readMove 81 = .ok (.aload_n 0, 1) := by decide +kernel
theorem dX12_readMove_82 : decode cX12_readMove 82 = .ok (.dup, 1) := by decide +kernel
theorem dX12_readMove_83 : decode cX12_readMove 83 = .ok (.getfield 267, 3) := by decide +kernel
theorem dX12_readMove_86 : decode cX12_readMove 86 = .ok (.iconst 1, 1) := by decide +kernel
theorem dX12_readMove_87 : decode cX12_readMove 87 = .ok (.iadd, 1) := by decide +kernel
theorem dX12_readMove_88 : decode cX12_readMove 88 = .ok (.putfield 267, 3) := by decide +kernel
theorem dX12_readMove_91 : decode cX12_readMove 91 = .ok (.goto (-66), 3) := by decide +kernel
theorem dX12_readMove_94 : decode cX12_readMove 94 = .ok (.aload_n 0, 1) := by decide +kernel
theorem dX12_readMove_95 : decode cX12_readMove 95 = .ok (.iload_n 3, 1) := by decide +kernel
theorem dX12_readMove_96 : decode cX12_readMove 96 = .ok (.aload_n 0, 1) := by decide +kernel
theorem dX12_readMove_97 : decode cX12_readMove 97 = .ok (.getfield 267, 3) := by decide +kernel
theorem dX12_readMove_100 : decode cX12_readMove 100 = .ok (.invokevirtual 307, 3) := by decide +kernel
theorem dX12_readMove_103 : decode cX12_readMove 103 = .ok (.istore 4, 2) := by decide +kernel
theorem dX12_readMove_105 : decode cX12_readMove 105 = .ok (.iload 4, 2) := by decide +kernel
theorem dX12_readMove_107 : decode cX12_readMove 107 = .ok (.ifCond .ge 21, 3) := by decide +kernel
theorem dX12_readMove_110 : decode cX12_readMove 110 = .ok (.iload 4, 2) := by decide +kernel
theorem dX12_readMove_112 : decode cX12_readMove 112 = .ok (.bipush (-2), 2) := by decide +kernel
theorem dX12_readMove_114 : decode cX12_readMove 114 = .ok (.if_icmp .ne 7, 3) := by decide +kernel
theorem dX12_readMove_117 : decode cX12_readMove 117 = .ok (.iconst 5, 1) := by decide +kernel
theorem dX12_readMove_118 : decode cX12_readMove 118 = .ok (.goto 4, 3) := by decide +kernel
theorem dX12_readMove_121 : decode cX12_readMove 121 = .ok (.iconst 4, 1) := by decide +kernel
theorem dX12_readMove_122 : decode cX12_readMove 122 = .ok (.iload_n 3, 1) := by decide +kernel
theorem dX12_readMove_123 : decode cX12_readMove 123 = .ok (.invokestatic 285, 3) := by decide +kernel
theorem dX12_readMove_126 : decode cX12_readMove 126 = .ok (.ineg, 1) := by decide +kernel
theorem dX12_readMove_127 : decode cX12_readMove 127 = .ok (.ireturn, 1) := by decide +kernel
theorem dX12_readMove_128 : decode cX12_readMove 128 = .ok (.aload_n 0, 1) := by decide +kernel
theorem dX12_readMove_129 : decode cX12_readMove 129 = .ok (.iload_n 1, 1) := by decide +kernel
theorem dX12_readMove_130 : decode cX12_readMove 130 = .ok (.iload_n 2, 1) := by decide +kernel
theorem dX12_readMove_131 : decode cX12_readMove 131 = .ok (.iload 4, 2) := by decide +kernel
theorem dX12_readMove_133 : decode cX12_readMove 133 = .ok (.invokevirtual 310, 3) := by decide +kernel
theorem dX12_readMove_136 : decode cX12_readMove 136 = .ok (.ifCond .lt 11, 3) := by decide +kernel
theorem dX12_readMove_139 : decode cX12_readMove 139 = .ok (.bipush 6, 2) := by decide +kernel
theorem dX12_readMove_141 : decode cX12_readMove 141 = .ok (.iload_n 3, 1) := by decide +kernel
theorem dX12_readMove_142 : decode cX12_readMove 142 = .ok (.invokestatic 285, 3) := by decide +kernel
theorem dX12_readMove_145 : decode cX12_readMove 145 = .ok (.ineg, 1) := by decide +kernel
theorem dX12_readMove_146 : decode cX12_readMove 146 = .ok (.ireturn, 1) := by decide +kernel
theorem dX12_readMove_147 : decode cX12_readMove 147 = .ok (.aload_n 0, 1) := by decide +kernel
theorem dX12_readMove_148 : decode cX12_readMove 148 = .ok (.getfield 17, 3) := by decide +kernel
theorem dX12_readMove_151 : decode cX12_readMove 151 = .ok (.iload_n 1, 1) := by decide +kernel
theorem dX12_readMove_152 : decode cX12_readMove 152 = .ok (.iaload, 1) := by decide +kernel
theorem dX12_readMove_153 : decode cX12_readMove 153 = .ok (.sipush 300, 3) := by decide +kernel
theorem dX12_readMove_156 : decode cX12_readMove 156 = .ok (.if_icmp .ne 11, 3) := by decide +kernel
theorem dX12_readMove_159 : decode cX12_readMove 159 = .ok (.bipush 8, 2) := by decide +kernel
theorem dX12_readMove_161 : decode cX12_readMove 161 = .ok (.iload_n 3, 1) := by decide +kernel
theorem dX12_readMove_162 : decode cX12_readMove 162 = .ok (.invokestatic 285, 3) := by decide +kernel
theorem dX12_readMove_165 : decode cX12_readMove 165 = .ok (.ineg, 1) := by decide +kernel
theorem dX12_readMove_166 : decode cX12_readMove 166 = .ok (.ireturn, 1) := by decide +kernel
theorem dX12_readMove_167 : decode cX12_readMove 167 = .ok (.aload_n 0, 1) := by decide +kernel
theorem dX12_readMove_168 : decode cX12_readMove 168 = .ok (.iload_n 1, 1) := by decide +kernel
theorem dX12_readMove_169 : decode cX12_readMove 169 = .ok (.iload_n 2, 1) := by decide +kernel
theorem dX12_readMove_170 : decode cX12_readMove 170 = .ok (.iload 4, 2) := by decide +kernel
theorem dX12_readMove_172 : decode cX12_readMove 172 = .ok (.invokevirtual 313, 3) := by decide +kernel
theorem dX12_readMove_175 : decode cX12_readMove 175 = .ok (.ireturn, 1) := by decide +kernel
theorem dX12_readLine_0 : decode cX12_readLine 0 = .ok (.iload_n 2, 1) := by decide +kernel
theorem dX12_readLine_1 : decode cX12_readLine 1 = .ok (.istore 4, 2) := by decide +kernel
theorem dX12_readLine_3 : decode cX12_readLine 3 = .ok (.aload_n 0, 1) := by decide +kernel
theorem dX12_readLine_4 : decode cX12_readLine 4 = .ok (.invokevirtual 273, 3) := by decide +kernel
theorem dX12_readLine_7 : decode cX12_readLine 7 = .ok (.iload_n 3, 1) := by decide +kernel
theorem dX12_readLine_8 : decode cX12_readLine 8 = .ok (.ifCond .ne 13, 3) := by decide +kernel
theorem dX12_readLine_11 : decode cX12_readLine 11 = .ok (.aload_n 0, 1) := by decide +kernel
theorem dX12_readLine_12 : decode cX12_readLine 12 = .ok (.invokevirtual 316, 3) := by decide +kernel
theorem dX12_readLine_15 : decode cX12_readLine 15 = .ok (.ifCond .lt 23, 3) := by decide +kernel
theorem dX12_readLine_18 : decode cX12_readLine 18 = .ok (.goto 18, 3) := by decide +kernel
theorem dX12_readLine_21 : decode cX12_readLine 21 = .ok (.aload_n 0, 1) := by decide +kernel
theorem dX12_readLine_22 : decode cX12_readLine 22 = .ok (.invokevirtual 276, 3) := by decide +kernel
theorem dX12_readLine_25 : decode cX12_readLine 25 = .ok (.bipush 41, 2) := by decide +kernel
theorem dX12_readLine_27 : decode cX12_readLine 27 = .ok (.if_icmp .ne 11, 3) := by decide +kernel
theorem dX12_readLine_30 : decode cX12_readLine 30 = .ok (.iload 4, 2) := by decide +kernel
theorem dX12_readLine_32 : decode cX12_readLine 32 = .ok (.iload_n 2, 1) := by decide +kernel
theorem dX12_readLine_33 : decode cX12_readLine 33 = .ok (.if_icmp .eq 5, 3) := by decide +kernel
theorem dX12_readLine_36 : decode cX12_readLine 36 = .ok (.iconst 0, 1) := by decide +kernel
theorem dX12_readLine_37 : decode cX12_readLine 37 = .ok (.ireturn, 1) := by decide +kernel
theorem dX12_readLine_38 : decode cX12_readLine 38 = .ok (.aload_n 0, 1) := by decide +kernel
theorem dX12_readLine_39 : decode cX12_readLine 39 = .ok (.iload_n 1, 1) := by decide +kernel
theorem dX12_readLine_40 : decode cX12_readLine 40 = .ok (.iload 4, 2) := by decide +kernel
theorem dX12_readLine_42 : decode cX12_readLine 42 = .ok (.invokevirtual 95, 3) := by decide +kernel
theorem dX12_readLine_45 : decode cX12_readLine 45 = .ok (.aload_n 0, 1) := by decide +kernel
theorem dX12_readLine_46 : decode cX12_readLine 46 = .ok (.invokevirtual 319, 3) := by decide +kernel
theorem dX12_readLine_49 : decode cX12_readLine 49 = .ok (.istore 5, 2) := by decide +kernel
theorem dX12_readLine_51 : decode cX12_readLine 51 = .ok (.iload 5, 2) := by decide +kernel
theorem dX12_readLine_53 : decode cX12_readLine 53 = .ok (.ifCond .le 6, 3) := by decide +kernel
theorem dX12_readLine_56 : decode cX12_readLine 56 = .ok (.iload 5, 2) := by decide +kernel
theorem dX12_readLine_58 : decode cX12_readLine 58 = .ok (.ireturn, 1) := by decide +kernel
theorem dX12_readLine_59 : decode cX12_readLine 59 = .ok (.aload_n 0, 1) := by decide +kernel
theorem dX12_readLine_60 : decode cX12_readLine 60 = .ok (.iload_n 1, 1) := by decide +kernel
theorem dX12_readLine_61 : decode cX12_readLine 61 = .ok (.iload 4, 2) := by decide +kernel
theorem dX12_readLine_63 : decode cX12_readLine 63 = .ok (.invokevirtual 322, 3) := by decide +kernel
theorem dX12_readLine_66 : decode cX12_readLine 66 = .ok (.istore 6, 2) := by decide +kernel
theorem dX12_readLine_68 : decode cX12_readLine 68 = .ok (.iload 6, 2) := by decide +kernel
theorem dX12_readLine_70 : decode cX12_readLine 70 = .ok (.ifCond .ge 7, 3) := by decide +kernel
theorem dX12_readLine_73 : decode cX12_readLine 73 = .ok (.iload 6, 2) := by decide +kernel
theorem dX12_readLine_75 : decode cX12_readLine 75 = .ok (.ineg, 1) := by decide +kernel
theorem dX12_readLine_76 : decode cX12_readLine 76 = .ok (.ireturn, 1) := by decide +kernel
theorem dX12_readLine_77 : decode cX12_readLine 77 = .ok (.iload 4, 2) := by decide +kernel
theorem dX12_readLine_79 : decode cX12_readLine 79 = .ok (.istore 7, 2) := by decide +kernel
theorem dX12_readLine_81 : decode cX12_readLine 81 = .ok (.iload 6, 2) := by decide +kernel
theorem dX12_readLine_83 : decode cX12_readLine 83 = .ok (.istore 4, 2) := by decide +kernel
theorem dX12_readLine_85 : decode cX12_readLine 85 = .ok (.aload_n 0, 1) := by decide +kernel
theorem dX12_readLine_86 : decode cX12_readLine 86 = .ok (.iload_n 1, 1) := by decide +kernel
theorem dX12_readLine_87 : decode cX12_readLine 87 = .ok (.iload 4, 2) := by decide +kernel
theorem dX12_readLine_89 : decode cX12_readLine 89 = .ok (.invokevirtual 325, 3) := by decide +kernel
theorem dX12_readLine_92 : decode cX12_readLine 92 = .ok (.istore 5, 2) := by decide +kernel
theorem dX12_readLine_94 : decode cX12_readLine 94 = .ok (.iload 5, 2) := by decide +kernel
theorem dX12_readLine_96 : decode cX12_readLine 96 = .ok (.ifCond .le 8, 3) := by decide +kernel
theorem dX12_readLine_99 : decode cX12_readLine 99 = .ok (.iload 5, 2) := by decide +kernel
theorem dX12_readLine_101 : decode cX12_readLine 101 = .ok (.goto 10, 3) := by decide +kernel
theorem dX12_readLine_104 : decode cX12_readLine 104 = .ok (.aload_n 0, 1) := by decide +kernel
theorem dX12_readLine_105 : decode cX12_readLine 105 = .ok (.iload_n 1, 1) := by decide +kernel
theorem dX12_readLine_106 : decode cX12_readLine 106 = .ok (.iload 4, 2) := by decide +kernel
theorem dX12_readLine_108 : decode cX12_readLine 108 = .ok (.invokevirtual 328, 3) := by decide +kernel
theorem dX12_readLine_111 : decode cX12_readLine 111 = .ok (.istore 5, 2) := by decide +kernel
theorem dX12_readLine_113 : decode cX12_readLine 113 = .ok (.iload 5, 2) := by decide +kernel
theorem dX12_readLine_115 : decode cX12_readLine 115 = .ok (.ifCond .ne 109, 3) := by decide +kernel
theorem dX12_readLine_118 : decode cX12_readLine 118 = .ok (.aload_n 0, 1) := by decide +kernel
theorem dX12_readLine_119 : decode cX12_readLine 119 = .ok (.invokevirtual 276, 3) := by decide +kernel
theorem dX12_readLine_122 : decode cX12_readLine 122 = .ok (.bipush 40, 2) := by decide +kernel
theorem dX12_readLine_124 : decode cX12_readLine 124 = .ok (.if_icmp .ne 100, 3) := by decide +kernel
theorem dX12_readLine_127 : decode cX12_readLine 127 = .ok (.iload_n 3, 1) := by decide +kernel
theorem dX12_readLine_128 : decode cX12_readLine 128 = .ok (.bipush 6, 2) := by decide +kernel
theorem dX12_readLine_130 : decode cX12_readLine 130 = .ok (.if_icmp .ne 15, 3) := by decide +kernel
theorem dX12_readLine_133 : decode cX12_readLine 133 = .ok (.bipush 8, 2) := by decide +kernel
theorem dX12_readLine_135 : decode cX12_readLine 135 = .ok (.aload_n 0, 1) := by decide +kernel
theorem dX12_readLine_136 : decode cX12_readLine 136 = .ok (.getfield 267, 3) := by decide +kernel
theorem dX12_readLine_139 : decode cX12_readLine 139 = .ok (.invokestatic 285, 3) := by decide +kernel
theorem dX12_readLine_142 : decode cX12_readLine 142 = .ok (.goto 4, 3) := by decide +kernel
theorem dX12_readLine_145 : decode cX12_readLine 145 = .ok (.iconst 0, 1) := by decide +kernel
theorem dX12_readLine_146 : decode cX12_readLine 146 = .ok (.istore 5, 2) := by decide +kernel
theorem dX12_readLine_148 : decode cX12_readLine 148 = .ok (.aload_n 0, 1) := by decide +kernel
theorem dX12_readLine_149 : decode cX12_readLine 149 = .ok (.dup, 1) := by decide +kernel
theorem dX12_readLine_150 : decode cX12_readLine 150 = .ok (.getfield 267, 3) := by decide +kernel
theorem dX12_readLine_153 : decode cX12_readLine 153 = .ok (.iconst 1, 1) := by decide +kernel
theorem dX12_readLine_154 : decode cX12_readLine 154 = .ok (.iadd, 1) := by decide +kernel
theorem dX12_readLine_155 : decode cX12_readLine 155 = .ok (.putfield 267, 3) := by decide +kernel
theorem dX12_readLine_158 : decode cX12_readLine 158 = .ok (.iload 5, 2) := by decide +kernel
theorem dX12_readLine_160 : decode cX12_readLine 160 = .ok (.ifCond .le 8, 3) := by decide +kernel
theorem dX12_readLine_163 : decode cX12_readLine 163 = .ok (.iload 5, 2) := by decide +kernel
theorem dX12_readLine_165 : decode cX12_readLine 165 = .ok (.goto 13, 3) := by decide +kernel
theorem dX12_readLine_168 : decode cX12_readLine 168 = .ok (.aload_n 0, 1) := by decide +kernel
theorem dX12_readLine_169 : decode cX12_readLine 169 = .ok (.iload_n 1, 1) := by decide +kernel
theorem dX12_readLine_170 : decode cX12_readLine 170 = .ok (.iload 7, 2) := by decide +kernel
theorem dX12_readLine_172 : decode cX12_readLine 172 = .ok (.iload_n 3, 1) := by decide +kernel
theorem dX12_readLine_173 : decode cX12_readLine 173 = .ok (.iconst 1, 1) := by decide +kernel
theorem dX12_readLine_174 : decode cX12_readLine 174 = .ok (.iadd, 1) := by decide +kernel
theorem dX12_readLine_175 : decode cX12_readLine 175 = .ok (.invokevirtual 331, 3) := by decide +kernel
theorem dX12_readLine_178 : decode cX12_readLine 178 = .ok (.istore 5, 2) := by decide +kernel
theorem dX12_readLine_180 : decode cX12_readLine 180 = .ok (.aload_n 0, 1) := by decide +kernel
theorem dX12_readLine_181 : decode cX12_readLine 181 = .ok (.iload 5, 2) := by decide +kernel
theorem dX12_readLine_183 : decode cX12_readLine 183 = .ok (.ifCond .le 10, 3) := by decide +kernel
theorem dX12_readLine_186 : decode cX12_readLine 186 = .ok (.aload_n 0, 1) := by decide +kernel
theorem dX12_readLine_187 : decode cX12_readLine 187 = .ok (.getfield 267, 3) := by decide +kernel
theorem dX12_readLine_190 : decode cX12_readLine 190 = .ok (.goto 9, 3) := by decide +kernel
theorem dX12_readLine_193 : decode cX12_readLine 193 = .ok (.aload_n 0, 1) := by decide +kernel
theorem dX12_readLine_194 : decode cX12_readLine 194 = .ok (.getfield 267, 3) := by decide +kernel
theorem dX12_readLine_197 : decode cX12_readLine 197 = .ok (.iconst 1, 1) := by decide +kernel
theorem dX12_readLine_198 : decode cX12_readLine 198 = .ok (.iadd, 1) := by decide +kernel
theorem dX12_readLine_199 : decode cX12_readLine 199 = .ok (.putfield 267, 3) := by decide +kernel
theorem dX12_readLine_202 : decode cX12_readLine 202 = .ok (.iload 5, 2) := by decide +kernel
theorem dX12_readLine_204 : decode cX12_readLine 204 = .ok (.ifCond .le 8, 3) := by decide +kernel
theorem dX12_readLine_207 : decode cX12_readLine 207 = .ok (.iload 5, 2) := by decide +kernel
theorem dX12_readLine_209 : decode cX12_readLine 209 = .ok (.goto 10, 3) := by decide +kernel
theorem dX12_readLine_212 : decode cX12_readLine 212 = .ok (.aload_n 0, 1) := by decide +kernel
theorem dX12_readLine_213 : decode cX12_readLine 213 = .ok (.iload_n 1, 1) := by decide +kernel
theorem dX12_readLine_214 : decode cX12_readLine 214 = .ok (.iload 4, 2) := by decide +kernel
theorem dX12_readLine_216 : decode cX12_readLine 216 = .ok (.invokevirtual 328, 3) := by decide +kernel
theorem dX12_readLine_219 : decode cX12_readLine 219 = .ok (.istore 5, 2) := by decide +kernel
theorem dX12_readLine_221 : decode cX12_readLine 221 = .ok (.goto (-108), 3) := by decide +kernel
theorem dX12_readLine_224 : decode cX12_readLine 224 = .ok (.iload 5, 2) := by decide +kernel
theorem dX12_readLine_226 : decode cX12_readLine 226 = .ok (.ifCond .le 6, 3) := by decide +kernel
theorem dX12_readLine_229 : decode cX12_readLine 229 = .ok (.iload 5, 2) := by decide +kernel
theorem dX12_readLine_231 : decode cX12_readLine 231 = .ok (.ireturn, 1) := by decide +kernel
theorem dX12_readLine_232 : decode cX12_readLine 232 = .ok (.goto (-229), 3) := by decide +kernel
theorem dX12_readGame_0 : decode cX12_readGame 0 = .ok (.aload_n 0, 1) := by decide +kernel
theorem dX12_readGame_1 : decode cX12_readGame 1 = .ok (.iconst 0, 1) := by decide +kernel
theorem dX12_readGame_2 : decode cX12_readGame 2 = .ok (.putfield 267, 3) := by decide +kernel
theorem dX12_readGame_5 : decode cX12_readGame 5 = .ok (.aload_n 0, 1) := by decide +kernel
theorem dX12_readGame_6 : decode cX12_readGame 6 = .ok (.invokevirtual 273, 3) := by decide +kernel
theorem dX12_readGame_9 : decode cX12_readGame 9 = .ok (.aload_n 0, 1) := by decide +kernel
theorem dX12_readGame_10 : decode cX12_readGame 10 = .ok (.invokevirtual 276, 3) := by decide +kernel
theorem dX12_readGame_13 : decode cX12_readGame 13 = .ok (.bipush 91, 2) := by decide +kernel
theorem dX12_readGame_15 : decode cX12_readGame 15 = .ok (.if_icmp .ne 22, 3) := by decide +kernel
theorem dX12_readGame_18 : decode cX12_readGame 18 = .ok (.aload_n 0, 1) := by decide +kernel
theorem dX12_readGame_19 : decode cX12_readGame 19 = .ok (.iload_n 1, 1) := by decide +kernel
theorem dX12_readGame_20 : decode cX12_readGame 20 = .ok (.invokevirtual 334, 3) := by decide +kernel
theorem dX12_readGame_23 : decode cX12_readGame 23 = .ok (.istore_n 2, 1) := by decide +kernel
theorem dX12_readGame_24 : decode cX12_readGame 24 = .ok (.iload_n 2, 1) := by decide +kernel
theorem dX12_readGame_25 : decode cX12_readGame 25 = .ok (.ifCond .le 5, 3) := by decide +kernel
theorem dX12_readGame_28 : decode cX12_readGame 28 = .ok (.iload_n 2, 1) := by decide +kernel
theorem dX12_readGame_29 : decode cX12_readGame 29 = .ok (.ireturn, 1) := by decide +kernel
theorem dX12_readGame_30 : decode cX12_readGame 30 = .ok (.aload_n 0, 1) := by decide +kernel
theorem dX12_readGame_31 : decode cX12_readGame 31 = .ok (.invokevirtual 273, 3) := by decide +kernel
theorem dX12_readGame_34 : decode cX12_readGame 34 = .ok (.goto (-25), 3) := by decide +kernel
theorem dX12_readGame_37 : decode cX12_readGame 37 = .ok (.aload_n 0, 1) := by decide +kernel
theorem dX12_readGame_38 : decode cX12_readGame 38 = .ok (.iload_n 1, 1) := by decide +kernel
theorem dX12_readGame_39 : decode cX12_readGame 39 = .ok (.iconst 0, 1) := by decide +kernel
theorem dX12_readGame_40 : decode cX12_readGame 40 = .ok (.invokevirtual 328, 3) := by decide +kernel
theorem dX12_readGame_43 : decode cX12_readGame 43 = .ok (.istore_n 2, 1) := by decide +kernel
theorem dX12_readGame_44 : decode cX12_readGame 44 = .ok (.iload_n 2, 1) := by decide +kernel
theorem dX12_readGame_45 : decode cX12_readGame 45 = .ok (.ifCond .le 7, 3) := by decide +kernel
theorem dX12_readGame_48 : decode cX12_readGame 48 = .ok (.iload_n 2, 1) := by decide +kernel
theorem dX12_readGame_49 : decode cX12_readGame 49 = .ok (.goto 10, 3) := by decide +kernel
theorem dX12_readGame_52 : decode cX12_readGame 52 = .ok (.aload_n 0, 1) := by decide +kernel
theorem dX12_readGame_53 : decode cX12_readGame 53 = .ok (.iload_n 1, 1) := by decide +kernel
theorem dX12_readGame_54 : decode cX12_readGame 54 = .ok (.iconst 0, 1) := by decide +kernel
theorem dX12_readGame_55 : decode cX12_readGame 55 = .ok (.iconst 0, 1) := by decide +kernel
theorem dX12_readGame_56 : decode cX12_readGame 56 = .ok (.invokevirtual 331, 3) := by decide +kernel
theorem dX12_readGame_59 : decode cX12_readGame 59 = .ok (.istore_n 2, 1) := by decide +kernel
theorem dX12_readGame_60 : decode cX12_readGame 60 = .ok (.iload_n 2, 1) := by decide +kernel
theorem dX12_readGame_61 : decode cX12_readGame 61 = .ok (.ifCond .le 5, 3) := by decide +kernel
theorem dX12_readGame_64 : decode cX12_readGame 64 = .ok (.iload_n 2, 1) := by decide +kernel
theorem dX12_readGame_65 : decode cX12_readGame 65 = .ok (.ireturn, 1) := by decide +kernel
theorem dX12_readGame_66 : decode cX12_readGame 66 = .ok (.aload_n 0, 1) := by decide +kernel
theorem dX12_readGame_67 : decode cX12_readGame 67 = .ok (.invokevirtual 316, 3) := by decide +kernel
theorem dX12_readGame_70 : decode cX12_readGame 70 = .ok (.istore_n 3, 1) := by decide +kernel
theorem dX12_readGame_71 : decode cX12_readGame 71 = .ok (.iconst 0, 1) := by decide +kernel
theorem dX12_readGame_72 : decode cX12_readGame 72 = .ok (.istore 4, 2) := by decide +kernel
theorem dX12_readGame_74 : decode cX12_readGame 74 = .ok (.iload 4, 2) := by decide +kernel
theorem dX12_readGame_76 : decode cX12_readGame 76 = .ok (.aload_n 0, 1) := by decide +kernel
theorem dX12_readGame_77 : decode cX12_readGame 77 = .ok (.getfield 52, 3) := by decide +kernel
theorem dX12_readGame_80 : decode cX12_readGame 80 = .ok (.iload_n 1, 1) := by decide +kernel
theorem dX12_readGame_81 : decode cX12_readGame 81 = .ok (.iaload, 1) := by decide +kernel
theorem dX12_readGame_82 : decode cX12_readGame 82 = .ok (.if_icmp .ge 41, 3) := by decide +kernel
theorem dX12_readGame_85 : decode cX12_readGame 85 = .ok (.aload_n 0, 1) := by decide +kernel
theorem dX12_readGame_86 : decode cX12_readGame 86 = .ok (.iload 4, 2) := by decide +kernel
theorem dX12_readGame_88 : decode cX12_readGame 88 = .ok (.iload_n 1, 1) := by decide +kernel
theorem dX12_readGame_89 : decode cX12_readGame 89 = .ok (.iconst 1, 1) := by decide +kernel
theorem dX12_readGame_90 : decode cX12_readGame 90 = .ok (.invokevirtual 292, 3) := by decide +kernel
theorem dX12_readGame_93 : decode cX12_readGame 93 = .ok (.ifCond .eq 24, 3) := by decide +kernel
theorem dX12_readGame_96 : decode cX12_readGame 96 = .ok (.aload_n 0, 1) := by decide +kernel
theorem dX12_readGame_97 : decode cX12_readGame 97 = .ok (.iload_n 1, 1) := by decide +kernel
theorem dX12_readGame_98 : decode cX12_readGame 98 = .ok (.iload 4, 2) := by decide +kernel
theorem dX12_readGame_100 : decode cX12_readGame 100 = .ok (.iload_n 3, 1) := by decide +kernel
theorem dX12_readGame_101 : decode cX12_readGame 101 = .ok (.invokevirtual 337, 3) := by decide +kernel
theorem dX12_readGame_104 : decode cX12_readGame 104 = .ok (.ifCond .ne 13, 3) := by decide +kernel
theorem dX12_readGame_107 : decode cX12_readGame 107 = .ok (.bipush 9, 2) := by decide +kernel
theorem dX12_readGame_109 : decode cX12_readGame 109 = .ok (.aload_n 0, 1) := by decide +kernel
theorem dX12_readGame_110 : decode cX12_readGame 110 = .ok (.getfield 267, 3) := by decide +kernel
theorem dX12_readGame_113 : decode cX12_readGame 113 = .ok (.invokestatic 285, 3) := by decide +kernel
theorem dX12_readGame_116 : decode cX12_readGame 116 = .ok (.ireturn, 1) := by decide +kernel
theorem dX12_readGame_117 : decode cX12_readGame 117 = .ok (.iinc 4 1, 3) := by decide +kernel
theorem dX12_readGame_120 : decode cX12_readGame 120 = .ok (.goto (-46), 3) := by decide +kernel
theorem dX12_readGame_123 : decode cX12_readGame 123 = .ok (.aload_n 0, 1) := by decide +kernel
theorem dX12_readGame_124 : decode cX12_readGame 124 = .ok (.getfield 67, 3) := by decide +kernel
theorem dX12_readGame_127 : decode cX12_readGame 127 = .ok (.iload_n 1, 1) := by decide +kernel
theorem dX12_readGame_128 : decode cX12_readGame 128 = .ok (.iload_n 3, 1) := by decide +kernel
theorem dX12_readGame_129 : decode cX12_readGame 129 = .ok (.iastore, 1) := by decide +kernel
theorem dX12_readGame_130 : decode cX12_readGame 130 = .ok (.aload_n 0, 1) := by decide +kernel
theorem dX12_readGame_131 : decode cX12_readGame 131 = .ok (.aload_n 0, 1) := by decide +kernel
theorem dX12_readGame_132 : decode cX12_readGame 132 = .ok (.getfield 267, 3) := by decide +kernel
theorem dX12_readGame_135 : decode cX12_readGame 135 = .ok (.iload_n 3, 1) := by decide +kernel
theorem dX12_readGame_136 : decode cX12_readGame 136 = .ok (.ifCond .ne 7, 3) := by decide +kernel
theorem dX12_readGame_139 : decode cX12_readGame 139 = .ok (.iconst 1, 1) := by decide +kernel
theorem dX12_readGame_140 : decode cX12_readGame 140 = .ok (.goto 14, 3) := by decide +kernel
theorem dX12_readGame_143 : decode cX12_readGame 143 = .ok (.iload_n 3, 1) := by decide +kernel
theorem dX12_readGame_144 : decode cX12_readGame 144 = .ok (.iconst 3, 1) := by decide +kernel
theorem dX12_readGame_145 : decode cX12_readGame 145 = .ok (.if_icmp .ne 8, 3) := by decide +kernel
theorem dX12_readGame_148 : decode cX12_readGame 148 = .ok (.bipush 7, 2) := by decide +kernel
theorem dX12_readGame_150 : decode cX12_readGame 150 = .ok (.goto 4, 3) := by decide +kernel
theorem dX12_readGame_153 : decode cX12_readGame 153 = .ok (.iconst 3, 1) := by decide +kernel
theorem dX12_readGame_154 : decode cX12_readGame 154 = .ok (.iadd, 1) := by decide +kernel
theorem dX12_readGame_155 : decode cX12_readGame 155 = .ok (.putfield 267, 3) := by decide +kernel
theorem dX12_readGame_158 : decode cX12_readGame 158 = .ok (.aload_n 0, 1) := by decide +kernel
theorem dX12_readGame_159 : decode cX12_readGame 159 = .ok (.invokevirtual 273, 3) := by decide +kernel
theorem dX12_readGame_162 : decode cX12_readGame 162 = .ok (.aload_n 0, 1) := by decide +kernel
theorem dX12_readGame_163 : decode cX12_readGame 163 = .ok (.getfield 267, 3) := by decide +kernel
theorem dX12_readGame_166 : decode cX12_readGame 166 = .ok (.aload_n 0, 1) := by decide +kernel
theorem dX12_readGame_167 : decode cX12_readGame 167 = .ok (.getfield 270, 3) := by decide +kernel
theorem dX12_readGame_170 : decode cX12_readGame 170 = .ok (.if_icmp .ge 14, 3) := by decide +kernel
theorem dX12_readGame_173 : decode cX12_readGame 173 = .ok (.iconst 1, 1) := by decide +kernel
theorem dX12_readGame_174 : decode cX12_readGame 174 = .ok (.aload_n 0, 1) := by decide +kernel
theorem dX12_readGame_175 : decode cX12_readGame 175 = .ok (.getfield 267, 3) := by decide +kernel
theorem dX12_readGame_178 : decode cX12_readGame 178 = .ok (.invokestatic 285, 3) := by decide +kernel
theorem dX12_readGame_181 : decode cX12_readGame 181 = .ok (.goto 4, 3) := by decide +kernel
theorem dX12_readGame_184 : decode cX12_readGame 184 = .ok (.iconst 0, 1) := by decide +kernel
theorem dX12_readGame_185 : decode cX12_readGame 185 = .ok (.ireturn, 1) := by decide +kernel
theorem dX12_resultSign_0 : decode cX12_resultSign 0 = .ok (.iload_n 0, 1) := by decide +kernel
theorem dX12_resultSign_1 : decode cX12_resultSign 1 = .ok (.tableswitch 74 0 2 #[27, 30, 52], 27) := by decide +kernel
theorem dX12_resultSign_28 : decode cX12_resultSign 28 = .ok (.bipush 42, 2) := by decide +kernel
theorem dX12_resultSign_30 : decode cX12_resultSign 30 = .ok (.ireturn, 1) := by decide +kernel
theorem dX12_resultSign_31 : decode cX12_resultSign 31 = .ok (.iload_n 1, 1) := by decide +kernel
theorem dX12_resultSign_32 : decode cX12_resultSign 32 = .ok (.ifCond .ne 8, 3) := by decide +kernel
theorem dX12_resultSign_35 : decode cX12_resultSign 35 = .ok (.bipush 49, 2) := by decide +kernel
theorem dX12_resultSign_37 : decode cX12_resultSign 37 = .ok (.goto 15, 3) := by decide +kernel
theorem dX12_resultSign_40 : decode cX12_resultSign 40 = .ok (.iload_n 1, 1) := by decide +kernel
theorem dX12_resultSign_41 : decode cX12_resultSign 41 = .ok (.iconst 1, 1) := by decide +kernel
theorem dX12_resultSign_42 : decode cX12_resultSign 42 = .ok (.if_icmp .ne 8, 3) := by decide +kernel
theorem dX12_resultSign_45 : decode cX12_resultSign 45 = .ok (.bipush 45, 2) := by decide +kernel
theorem dX12_resultSign_47 : decode cX12_resultSign 47 = .ok (.goto 5, 3) := by decide +kernel
theorem dX12_resultSign_50 : decode cX12_resultSign 50 = .ok (.bipush 48, 2) := by decide +kernel
theorem dX12_resultSign_52 : decode cX12_resultSign 52 = .ok (.ireturn, 1) := by decide +kernel
theorem dX12_resultSign_53 : decode cX12_resultSign 53 = .ok (.iload_n 1, 1) := by decide +kernel
theorem dX12_resultSign_54 : decode cX12_resultSign 54 = .ok (.ifCond .ne 8, 3) := by decide +kernel
theorem dX12_resultSign_57 : decode cX12_resultSign 57 = .ok (.bipush 48, 2) := by decide +kernel
theorem dX12_resultSign_59 : decode cX12_resultSign 59 = .ok (.goto 15, 3) := by decide +kernel
theorem dX12_resultSign_62 : decode cX12_resultSign 62 = .ok (.iload_n 1, 1) := by decide +kernel
theorem dX12_resultSign_63 : decode cX12_resultSign 63 = .ok (.iconst 1, 1) := by decide +kernel
theorem dX12_resultSign_64 : decode cX12_resultSign 64 = .ok (.if_icmp .ne 8, 3) := by decide +kernel
theorem dX12_resultSign_67 : decode cX12_resultSign 67 = .ok (.bipush 45, 2) := by decide +kernel
theorem dX12_resultSign_69 : decode cX12_resultSign 69 = .ok (.goto 5, 3) := by decide +kernel
theorem dX12_resultSign_72 : decode cX12_resultSign 72 = .ok (.bipush 49, 2) := by decide +kernel
theorem dX12_resultSign_74 : decode cX12_resultSign 74 = .ok (.ireturn, 1) := by decide +kernel
theorem dX12_resultSign_75 : decode cX12_resultSign 75 = .ok (.iload_n 1, 1) := by decide +kernel
theorem dX12_resultSign_76 : decode cX12_resultSign 76 = .ok (.iconst 1, 1) := by decide +kernel
theorem dX12_resultSign_77 : decode cX12_resultSign 77 = .ok (.if_icmp .eq 8, 3) := by decide +kernel
theorem dX12_resultSign_80 : decode cX12_resultSign 80 = .ok (.iload_n 1, 1) := by decide +kernel
theorem dX12_resultSign_81 : decode cX12_resultSign 81 = .ok (.iconst 5, 1) := by decide +kernel
theorem dX12_resultSign_82 : decode cX12_resultSign 82 = .ok (.if_icmp .ne 8, 3) := by decide +kernel
theorem dX12_resultSign_85 : decode cX12_resultSign 85 = .ok (.bipush 47, 2) := by decide +kernel
theorem dX12_resultSign_87 : decode cX12_resultSign 87 = .ok (.goto 29, 3) := by decide +kernel
theorem dX12_resultSign_90 : decode cX12_resultSign 90 = .ok (.iload_n 1, 1) := by decide +kernel
theorem dX12_resultSign_91 : decode cX12_resultSign 91 = .ok (.iconst 3, 1) := by decide +kernel
theorem dX12_resultSign_92 : decode cX12_resultSign 92 = .ok (.if_icmp .ne 8, 3) := by decide +kernel
theorem dX12_resultSign_95 : decode cX12_resultSign 95 = .ok (.bipush 45, 2) := by decide +kernel
theorem dX12_resultSign_97 : decode cX12_resultSign 97 = .ok (.goto 19, 3) := by decide +kernel
theorem dX12_resultSign_100 : decode cX12_resultSign 100 = .ok (.iload_n 1, 1) := by decide +kernel
theorem dX12_resultSign_101 : decode cX12_resultSign 101 = .ok (.ifCond .eq 8, 3) := by decide +kernel
theorem dX12_resultSign_104 : decode cX12_resultSign 104 = .ok (.iload_n 1, 1) := by decide +kernel
theorem dX12_resultSign_105 : decode cX12_resultSign 105 = .ok (.iconst 4, 1) := by decide +kernel
theorem dX12_resultSign_106 : decode cX12_resultSign 106 = .ok (.if_icmp .ne 8, 3) := by decide +kernel
theorem dX12_resultSign_109 : decode cX12_resultSign 109 = .ok (.bipush 49, 2) := by decide +kernel
theorem dX12_resultSign_111 : decode cX12_resultSign 111 = .ok (.goto 5, 3) := by decide +kernel
theorem dX12_resultSign_114 : decode cX12_resultSign 114 = .ok (.bipush 50, 2) := by decide +kernel
theorem dX12_resultSign_116 : decode cX12_resultSign 116 = .ok (.ireturn, 1) := by decide +kernel
theorem dX12_resultSize_0 : decode cX12_resultSize 0 = .ok (.iload_n 0, 1) := by decide +kernel
theorem dX12_resultSize_1 : decode cX12_resultSize 1 = .ok (.ifCond .ne 7, 3) := by decide +kernel
theorem dX12_resultSize_4 : decode cX12_resultSize 4 = .ok (.iconst 1, 1) := by decide +kernel
theorem dX12_resultSize_5 : decode cX12_resultSize 5 = .ok (.goto 14, 3) := by decide +kernel
theorem dX12_resultSize_8 : decode cX12_resultSize 8 = .ok (.iload_n 0, 1) := by decide +kernel
theorem dX12_resultSize_9 : decode cX12_resultSize 9 = .ok (.iconst 3, 1) := by decide +kernel
theorem dX12_resultSize_10 : decode cX12_resultSize 10 = .ok (.if_icmp .ne 8, 3) := by decide +kernel
theorem dX12_resultSize_13 : decode cX12_resultSize 13 = .ok (.bipush 7, 2) := by decide +kernel
theorem dX12_resultSize_15 : decode cX12_resultSize 15 = .ok (.goto 4, 3) := by decide +kernel
theorem dX12_resultSize_18 : decode cX12_resultSize 18 = .ok (.iconst 3, 1) := by decide +kernel
end
section
theorem dX12_resultSize_19 : decode cX12_resultSize 19 = .ok (.ireturn, 1) := by decide +kernel
theorem dX12_isResultValue_0 : decode cX12_isResultValue 0 = .ok (.aload_n 0, 1) := by decide +kernel
theorem dX12_isResultValue_1 : decode cX12_isResultValue 1 = .ok (.getfield 61, 3) := by decide +kernel
theorem dX12_isResultValue_4 : decode cX12_isResultValue 4 = .ok (.bipush 8, 2) := by decide +kernel
theorem dX12_isResultValue_6 : decode cX12_isResultValue 6 = .ok (.iload_n 1, 1) := by decide +kernel
theorem dX12_isResultValue_7 : decode cX12_isResultValue 7 = .ok (.imul, 1) := by decide +kernel
theorem dX12_isResultValue_8 : decode cX12_isResultValue 8 = .ok (.iload_n 2, 1) := by decide +kernel
theorem dX12_isResultValue_9 : decode cX12_isResultValue 9 = .ok (.iadd, 1) := by decide +kernel
theorem dX12_isResultValue_10 : decode cX12_isResultValue 10 = .ok (.iaload, 1) := by decide +kernel
theorem dX12_isResultValue_11 : decode cX12_isResultValue 11 = .ok (.iload_n 3, 1) := by decide +kernel
theorem dX12_isResultValue_12 : decode cX12_isResultValue 12 = .ok (.invokestatic 340, 3) := by decide +kernel
theorem dX12_isResultValue_15 : decode cX12_isResultValue 15 = .ok (.if_icmp .ne 7, 3) := by decide +kernel
theorem dX12_isResultValue_18 : decode cX12_isResultValue 18 = .ok (.iconst 1, 1) := by decide +kernel
theorem dX12_isResultValue_19 : decode cX12_isResultValue 19 = .ok (.goto 4, 3) := by decide +kernel
theorem dX12_isResultValue_22 : decode cX12_isResultValue 22 = .ok (.iconst 0, 1) := by decide +kernel
theorem dX12_isResultValue_23 : decode cX12_isResultValue 23 = .ok (.istore 4, 2) := by decide +kernel
theorem dX12_isResultValue_25 : decode cX12_isResultValue 25 = .ok (.iconst 0, 1) := by decide +kernel
theorem dX12_isResultValue_26 : decode cX12_isResultValue 26 = .ok (.istore 5, 2) := by decide +kernel
theorem dX12_isResultValue_28 : decode cX12_isResultValue 28 = .ok (.iload 5, 2) := by decide +kernel
theorem dX12_isResultValue_30 : decode cX12_isResultValue 30 = .ok (.iload_n 3, 1) := by decide +kernel
theorem dX12_isResultValue_31 : decode cX12_isResultValue 31 = .ok (.invokestatic 340, 3) := by decide +kernel
theorem dX12_isResultValue_34 : decode cX12_isResultValue 34 = .ok (.if_icmp .ge 48, 3) := by decide +kernel
theorem dX12_isResultValue_37 : decode cX12_isResultValue 37 = .ok (.iload 4, 2) := by decide +kernel
theorem dX12_isResultValue_39 : decode cX12_isResultValue 39 = .ok (.ifCond .eq 43, 3) := by decide +kernel
theorem dX12_isResultValue_42 : decode cX12_isResultValue 42 = .ok (.aload_n 0, 1) := by decide +kernel
theorem dX12_isResultValue_43 : decode cX12_isResultValue 43 = .ok (.getfield 64, 3) := by decide +kernel
theorem dX12_isResultValue_46 : decode cX12_isResultValue 46 = .ok (.sipush 768, 3) := by decide +kernel
theorem dX12_isResultValue_49 : decode cX12_isResultValue 49 = .ok (.iload_n 1, 1) := by decide +kernel
theorem dX12_isResultValue_50 : decode cX12_isResultValue 50 = .ok (.imul, 1) := by decide +kernel
theorem dX12_isResultValue_51 : decode cX12_isResultValue 51 = .ok (.bipush 96, 2) := by decide +kernel
theorem dX12_isResultValue_53 : decode cX12_isResultValue 53 = .ok (.iload_n 2, 1) := by decide +kernel
theorem dX12_isResultValue_54 : decode cX12_isResultValue 54 = .ok (.imul, 1) := by decide +kernel
theorem dX12_isResultValue_55 : decode cX12_isResultValue 55 = .ok (.iadd, 1) := by decide +kernel
theorem dX12_isResultValue_56 : decode cX12_isResultValue 56 = .ok (.iload 5, 2) := by decide +kernel
theorem dX12_isResultValue_58 : decode cX12_isResultValue 58 = .ok (.iadd, 1) := by decide +kernel
theorem dX12_isResultValue_59 : decode cX12_isResultValue 59 = .ok (.caload, 1) := by decide +kernel
theorem dX12_isResultValue_60 : decode cX12_isResultValue 60 = .ok (.iload_n 3, 1) := by decide +kernel
theorem dX12_isResultValue_61 : decode cX12_isResultValue 61 = .ok (.iload 5, 2) := by decide +kernel
theorem dX12_isResultValue_63 : decode cX12_isResultValue 63 = .ok (.invokestatic 343, 3) := by decide +kernel
theorem dX12_isResultValue_66 : decode cX12_isResultValue 66 = .ok (.if_icmp .ne 7, 3) := by decide +kernel
theorem dX12_isResultValue_69 : decode cX12_isResultValue 69 = .ok (.iconst 1, 1) := by decide +kernel
theorem dX12_isResultValue_70 : decode cX12_isResultValue 70 = .ok (.goto 4, 3) := by decide +kernel
theorem dX12_isResultValue_73 : decode cX12_isResultValue 73 = .ok (.iconst 0, 1) := by decide +kernel
theorem dX12_isResultValue_74 : decode cX12_isResultValue 74 = .ok (.istore 4, 2) := by decide +kernel
theorem dX12_isResultValue_76 : decode cX12_isResultValue 76 = .ok (.iinc 5 1, 3) := by decide +kernel
theorem dX12_isResultValue_79 : decode cX12_isResultValue 79 = .ok (.goto (-51), 3) := by decide +kernel
theorem dX12_isResultValue_82 : decode cX12_isResultValue 82 = .ok (.iload 4, 2) := by decide +kernel
theorem dX12_isResultValue_84 : decode cX12_isResultValue 84 = .ok (.ireturn, 1) := by decide +kernel
theorem dX12_read_0 : decode cX12_read 0 = .ok (.aload_n 0, 1) := by decide +kernel
theorem dX12_read_1 : decode cX12_read 1 = .ok (.iconst 0, 1) := by decide +kernel
theorem dX12_read_2 : decode cX12_read 2 = .ok (.putfield 99, 3) := by decide +kernel
theorem dX12_read_5 : decode cX12_read 5 = .ok (.iconst 1, 1) := by decide +kernel
theorem dX12_read_6 : decode cX12_read 6 = .ok (.aload_n 0, 1) := by decide +kernel
theorem dX12_read_7 : decode cX12_read 7 = .ok (.getfield 347, 3) := by decide +kernel
theorem dX12_read_10 : decode cX12_read 10 = .ok (.isub, 1) := by decide +kernel
theorem dX12_read_11 : decode cX12_read 11 = .ok (.istore_n 1, 1) := by decide +kernel
theorem dX12_read_12 : decode cX12_read 12 = .ok (.aload_n 0, 1) := by decide +kernel
theorem dX12_read_13 : decode cX12_read 13 = .ok (.iload_n 1, 1) := by decide +kernel
theorem dX12_read_14 : decode cX12_read 14 = .ok (.invokevirtual 88, 3) := by decide +kernel
theorem dX12_read_17 : decode cX12_read 17 = .ok (.aload_n 0, 1) := by decide +kernel
theorem dX12_read_18 : decode cX12_read 18 = .ok (.iload_n 1, 1) := by decide +kernel
theorem dX12_read_19 : decode cX12_read 19 = .ok (.invokevirtual 92, 3) := by decide +kernel
theorem dX12_read_22 : decode cX12_read 22 = .ok (.aload_n 0, 1) := by decide +kernel
theorem dX12_read_23 : decode cX12_read 23 = .ok (.iload_n 1, 1) := by decide +kernel
theorem dX12_read_24 : decode cX12_read 24 = .ok (.invokevirtual 350, 3) := by decide +kernel
theorem dX12_read_27 : decode cX12_read 27 = .ok (.istore_n 2, 1) := by decide +kernel
theorem dX12_read_28 : decode cX12_read 28 = .ok (.iload_n 2, 1) := by decide +kernel
theorem dX12_read_29 : decode cX12_read 29 = .ok (.ifCond .ne 18, 3) := by decide +kernel
theorem dX12_read_32 : decode cX12_read 32 = .ok (.aload_n 0, 1) := by decide +kernel
theorem dX12_read_33 : decode cX12_read 33 = .ok (.iload_n 1, 1) := by decide +kernel
theorem dX12_read_34 : decode cX12_read 34 = .ok (.putfield 347, 3) := by decide +kernel
theorem dX12_read_37 : decode cX12_read 37 = .ok (.aload_n 0, 1) := by decide +kernel
theorem dX12_read_38 : decode cX12_read 38 = .ok (.iconst 0, 1) := by decide +kernel
theorem dX12_read_39 : decode cX12_read 39 = .ok (.putfield 353, 3) := by decide +kernel
theorem dX12_read_42 : decode cX12_read 42 = .ok (.aload_n 0, 1) := by decide +kernel
theorem dX12_read_43 : decode cX12_read 43 = .ok (.iconst 0, 1) := by decide +kernel
theorem dX12_read_44 : decode cX12_read 44 = .ok (.putfield 270, 3) := by decide +kernel
theorem dX12_read_47 : decode cX12_read 47 = .ok (.aload_n 0, 1) := by decide +kernel
theorem dX12_read_48 : decode cX12_read 48 = .ok (.aload_n 0, 1) := by decide +kernel
theorem dX12_read_49 : decode cX12_read 49 = .ok (.getfield 347, 3) := by decide +kernel
theorem dX12_read_52 : decode cX12_read 52 = .ok (.aload_n 0, 1) := by decide +kernel
theorem dX12_read_53 : decode cX12_read 53 = .ok (.getfield 353, 3) := by decide +kernel
theorem dX12_read_56 : decode cX12_read 56 = .ok (.invokevirtual 95, 3) := by decide +kernel
theorem dX12_read_59 : decode cX12_read 59 = .ok (.iload_n 2, 1) := by decide +kernel
theorem dX12_read_60 : decode cX12_read 60 = .ok (.ireturn, 1) := by decide +kernel
theorem dX12_find_0 : decode cX12_find 0 = .ok (.aload_n 0, 1) := by decide +kernel
theorem dX12_find_1 : decode cX12_find 1 = .ok (.iconst 0, 1) := by decide +kernel
theorem dX12_find_2 : decode cX12_find 2 = .ok (.putfield 99, 3) := by decide +kernel
theorem dX12_find_5 : decode cX12_find 5 = .ok (.aload_n 0, 1) := by decide +kernel
theorem dX12_find_6 : decode cX12_find 6 = .ok (.iconst 0, 1) := by decide +kernel
theorem dX12_find_7 : decode cX12_find 7 = .ok (.aload_n 0, 1) := by decide +kernel
theorem dX12_find_8 : decode cX12_find 8 = .ok (.getfield 270, 3) := by decide +kernel
theorem dX12_find_11 : decode cX12_find 11 = .ok (.invokevirtual 307, 3) := by decide +kernel
theorem dX12_find_14 : decode cX12_find 14 = .ok (.ireturn, 1) := by decide +kernel
theorem dX12_type_0 : decode cX12_type 0 = .ok (.aload_n 0, 1) := by decide +kernel
theorem dX12_type_1 : decode cX12_type 1 = .ok (.iconst 0, 1) := by decide +kernel
theorem dX12_type_2 : decode cX12_type 2 = .ok (.putfield 99, 3) := by decide +kernel
theorem dX12_type_5 : decode cX12_type 5 = .ok (.iload_n 3, 1) := by decide +kernel
theorem dX12_type_6 : decode cX12_type 6 = .ok (.iconst 1, 1) := by decide +kernel
theorem dX12_type_7 : decode cX12_type 7 = .ok (.if_icmp .lt 21, 3) := by decide +kernel
theorem dX12_type_10 : decode cX12_type 10 = .ok (.iload_n 3, 1) := by decide +kernel
theorem dX12_type_11 : decode cX12_type 11 = .ok (.bipush 8, 2) := by decide +kernel
theorem dX12_type_13 : decode cX12_type 13 = .ok (.if_icmp .gt 15, 3) := by decide +kernel
theorem dX12_type_16 : decode cX12_type 16 = .ok (.aload_n 0, 1) := by decide +kernel
theorem dX12_type_17 : decode cX12_type 17 = .ok (.getfield 270, 3) := by decide +kernel
theorem dX12_type_20 : decode cX12_type 20 = .ok (.iload_n 3, 1) := by decide +kernel
theorem dX12_type_21 : decode cX12_type 21 = .ok (.iadd, 1) := by decide +kernel
theorem dX12_type_22 : decode cX12_type 22 = .ok (.sipush 2000, 3) := by decide +kernel
theorem dX12_type_25 : decode cX12_type 25 = .ok (.if_icmp .le 5, 3) := by decide +kernel
theorem dX12_type_28 : decode cX12_type 28 = .ok (.iconst 0, 1) := by decide +kernel
theorem dX12_type_29 : decode cX12_type 29 = .ok (.ireturn, 1) := by decide +kernel
theorem dX12_type_30 : decode cX12_type 30 = .ok (.iconst 0, 1) := by decide +kernel
theorem dX12_type_31 : decode cX12_type 31 = .ok (.istore 4, 2) := by decide +kernel
theorem dX12_type_33 : decode cX12_type 33 = .ok (.iload 4, 2) := by decide +kernel
theorem dX12_type_35 : decode cX12_type 35 = .ok (.iload_n 3, 1) := by decide +kernel
theorem dX12_type_36 : decode cX12_type 36 = .ok (.if_icmp .ge 51, 3) := by decide +kernel
theorem dX12_type_39 : decode cX12_type 39 = .ok (.lload_n 1, 1) := by decide +kernel
theorem dX12_type_40 : decode cX12_type 40 = .ok (.bipush 8, 2) := by decide +kernel
theorem dX12_type_42 : decode cX12_type 42 = .ok (.iload 4, 2) := by decide +kernel
theorem dX12_type_44 : decode cX12_type 44 = .ok (.imul, 1) := by decide +kernel
theorem dX12_type_45 : decode cX12_type 45 = .ok (.lshr, 1) := by decide +kernel
theorem dX12_type_46 : decode cX12_type 46 = .ok (.ldc2_w 356, 3) := by decide +kernel
theorem dX12_type_49 : decode cX12_type 49 = .ok (.land, 1) := by decide +kernel
theorem dX12_type_50 : decode cX12_type 50 = .ok (.lstore 5, 2) := by decide +kernel
theorem dX12_type_52 : decode cX12_type 52 = .ok (.lload 5, 2) := by decide +kernel
theorem dX12_type_54 : decode cX12_type 54 = .ok (.ldc2_w 358, 3) := by decide +kernel
theorem dX12_type_57 : decode cX12_type 57 = .ok (.lcmp, 1) := by decide +kernel
theorem dX12_type_58 : decode cX12_type 58 = .ok (.ifCond .eq 23, 3) := by decide +kernel
theorem dX12_type_61 : decode cX12_type 61 = .ok (.lload 5, 2) := by decide +kernel
theorem dX12_type_63 : decode cX12_type 63 = .ok (.ldc2_w 360, 3) := by decide +kernel
theorem dX12_type_66 : decode cX12_type 66 = .ok (.lcmp, 1) := by decide +kernel
theorem dX12_type_67 : decode cX12_type 67 = .ok (.ifCond .lt 12, 3) := by decide +kernel
theorem dX12_type_70 : decode cX12_type 70 = .ok (.lload 5, 2) := by decide +kernel
theorem dX12_type_72 : decode cX12_type 72 = .ok (.ldc2_w 362, 3) := by decide +kernel
theorem dX12_type_75 : decode cX12_type 75 = .ok (.lcmp, 1) := by decide +kernel
theorem dX12_type_76 : decode cX12_type 76 = .ok (.ifCond .le 5, 3) := by decide +kernel
theorem dX12_type_79 : decode cX12_type 79 = .ok (.iconst 0, 1) := by decide +kernel
theorem dX12_type_80 : decode cX12_type 80 = .ok (.ireturn, 1) := by decide +kernel
theorem dX12_type_81 : decode cX12_type 81 = .ok (.iinc 4 1, 3) := by decide +kernel
theorem dX12_type_84 : decode cX12_type 84 = .ok (.goto (-51), 3) := by decide +kernel
theorem dX12_type_87 : decode cX12_type 87 = .ok (.iconst 0, 1) := by decide +kernel
theorem dX12_type_88 : decode cX12_type 88 = .ok (.istore 4, 2) := by decide +kernel
theorem dX12_type_90 : decode cX12_type 90 = .ok (.iload 4, 2) := by decide +kernel
theorem dX12_type_92 : decode cX12_type 92 = .ok (.iload_n 3, 1) := by decide +kernel
theorem dX12_type_93 : decode cX12_type 93 = .ok (.if_icmp .ge 41, 3) := by decide +kernel
theorem dX12_type_96 : decode cX12_type 96 = .ok (.aload_n 0, 1) := by decide +kernel
theorem dX12_type_97 : decode cX12_type 97 = .ok (.getfield 7, 3) := by decide +kernel
theorem dX12_type_100 : decode cX12_type 100 = .ok (.aload_n 0, 1) := by decide +kernel
theorem dX12_type_101 : decode cX12_type 101 = .ok (.getfield 270, 3) := by decide +kernel
theorem dX12_type_104 : decode cX12_type 104 = .ok (.lload_n 1, 1) := by decide +kernel
theorem dX12_type_105 : decode cX12_type 105 = .ok (.bipush 8, 2) := by decide +kernel
theorem dX12_type_107 : decode cX12_type 107 = .ok (.iload 4, 2) := by decide +kernel
theorem dX12_type_109 : decode cX12_type 109 = .ok (.imul, 1) := by decide +kernel
theorem dX12_type_110 : decode cX12_type 110 = .ok (.lshr, 1) := by decide +kernel
theorem dX12_type_111 : decode cX12_type 111 = .ok (.ldc2_w 356, 3) := by decide +kernel
theorem dX12_type_114 : decode cX12_type 114 = .ok (.land, 1) := by decide +kernel
theorem dX12_type_115 : decode cX12_type 115 = .ok (.l2i, 1) := by decide +kernel
theorem dX12_type_116 : decode cX12_type 116 = .ok (.i2c, 1) := by decide +kernel
theorem dX12_type_117 : decode cX12_type 117 = .ok (.castore, 1) := by decide +kernel
theorem dX12_type_118 : decode cX12_type 118 = .ok (.aload_n 0, 1) := by decide +kernel
theorem dX12_type_119 : decode cX12_type 119 = .ok (.dup, 1) := by decide +kernel
theorem dX12_type_120 : decode cX12_type 120 = .ok (.getfield 270, 3) := by decide +kernel
theorem dX12_type_123 : decode cX12_type 123 = .ok (.iconst 1, 1) := by decide +kernel
theorem dX12_type_124 : decode cX12_type 124 = .ok (.iadd, 1) := by decide +kernel
theorem dX12_type_125 : decode cX12_type 125 = .ok (.putfield 270, 3) := by decide +kernel
theorem dX12_type_128 : decode cX12_type 128 = .ok (.iinc 4 1, 3) := by decide +kernel
theorem dX12_type_131 : decode cX12_type 131 = .ok (.goto (-41), 3) := by decide +kernel
theorem dX12_type_134 : decode cX12_type 134 = .ok (.iconst 1, 1) := by decide +kernel
theorem dX12_type_135 : decode cX12_type 135 = .ok (.ireturn, 1) := by decide +kernel
theorem dX12_cut_0 : decode cX12_cut 0 = .ok (.aload_n 0, 1) := by decide +kernel
theorem dX12_cut_1 : decode cX12_cut 1 = .ok (.iconst 0, 1) := by decide +kernel
theorem dX12_cut_2 : decode cX12_cut 2 = .ok (.putfield 99, 3) := by decide +kernel
theorem dX12_cut_5 : decode cX12_cut 5 = .ok (.iload_n 1, 1) := by decide +kernel
theorem dX12_cut_6 : decode cX12_cut 6 = .ok (.ifCond .lt 11, 3) := by decide +kernel
theorem dX12_cut_9 : decode cX12_cut 9 = .ok (.iload_n 1, 1) := by decide +kernel
theorem dX12_cut_10 : decode cX12_cut 10 = .ok (.aload_n 0, 1) := by decide +kernel
theorem dX12_cut_11 : decode cX12_cut 11 = .ok (.getfield 270, 3) := by decide +kernel
theorem dX12_cut_14 : decode cX12_cut 14 = .ok (.if_icmp .le 5, 3) := by decide +kernel
theorem dX12_cut_17 : decode cX12_cut 17 = .ok (.iconst 0, 1) := by decide +kernel
theorem dX12_cut_18 : decode cX12_cut 18 = .ok (.ireturn, 1) := by decide +kernel
theorem dX12_cut_19 : decode cX12_cut 19 = .ok (.aload_n 0, 1) := by decide +kernel
theorem dX12_cut_20 : decode cX12_cut 20 = .ok (.iload_n 1, 1) := by decide +kernel
theorem dX12_cut_21 : decode cX12_cut 21 = .ok (.putfield 270, 3) := by decide +kernel
theorem dX12_cut_24 : decode cX12_cut 24 = .ok (.iconst 1, 1) := by decide +kernel
theorem dX12_cut_25 : decode cX12_cut 25 = .ok (.ireturn, 1) := by decide +kernel
theorem dX12_ink_0 : decode cX12_ink 0 = .ok (.aload_n 0, 1) := by decide +kernel
theorem dX12_ink_1 : decode cX12_ink 1 = .ok (.getfield 14, 3) := by decide +kernel
theorem dX12_ink_4 : decode cX12_ink 4 = .ok (.aload_n 0, 1) := by decide +kernel
theorem dX12_ink_5 : decode cX12_ink 5 = .ok (.getfield 364, 3) := by decide +kernel
theorem dX12_ink_8 : decode cX12_ink 8 = .ok (.iload_n 1, 1) := by decide +kernel
theorem dX12_ink_9 : decode cX12_ink 9 = .ok (.castore, 1) := by decide +kernel
theorem dX12_ink_10 : decode cX12_ink 10 = .ok (.aload_n 0, 1) := by decide +kernel
theorem dX12_ink_11 : decode cX12_ink 11 = .ok (.dup, 1) := by decide +kernel
theorem dX12_ink_12 : decode cX12_ink 12 = .ok (.getfield 364, 3) := by decide +kernel
theorem dX12_ink_15 : decode cX12_ink 15 = .ok (.iconst 1, 1) := by decide +kernel
theorem dX12_ink_16 : decode cX12_ink 16 = .ok (.iadd, 1) := by decide +kernel
theorem dX12_ink_17 : decode cX12_ink 17 = .ok (.putfield 364, 3) := by decide +kernel
theorem dX12_ink_20 : decode cX12_ink 20 = .ok (.return_, 1) := by decide +kernel
theorem dX12_sayNumber_0 : decode cX12_sayNumber 0 = .ok (.iconst 1, 1) := by decide +kernel
theorem dX12_sayNumber_1 : decode cX12_sayNumber 1 = .ok (.istore_n 2, 1) := by decide +kernel
theorem dX12_sayNumber_2 : decode cX12_sayNumber 2 = .ok (.iload_n 2, 1) := by decide +kernel
theorem dX12_sayNumber_3 : decode cX12_sayNumber 3 = .ok (.bipush 10, 2) := by decide +kernel
theorem dX12_sayNumber_5 : decode cX12_sayNumber 5 = .ok (.imul, 1) := by decide +kernel
theorem dX12_sayNumber_6 : decode cX12_sayNumber 6 = .ok (.iload_n 1, 1) := by decide +kernel
theorem dX12_sayNumber_7 : decode cX12_sayNumber 7 = .ok (.if_icmp .gt 11, 3) := by decide +kernel
theorem dX12_sayNumber_10 : decode cX12_sayNumber 10 = .ok (.iload_n 2, 1) := by decide +kernel
theorem dX12_sayNumber_11 : decode cX12_sayNumber 11 = .ok (.bipush 10, 2) := by decide +kernel
theorem dX12_sayNumber_13 : decode cX12_sayNumber 13 = .ok (.imul, 1) := by decide +kernel
theorem dX12_sayNumber_14 : decode cX12_sayNumber 14 = .ok (.istore_n 2, 1) := by decide +kernel
theorem dX12_sayNumber_15 : decode cX12_sayNumber 15 = .ok (.goto (-13), 3) := by decide +kernel
theorem dX12_sayNumber_18 : decode cX12_sayNumber 18 = .ok (.iload_n 2, 1) := by decide +kernel
theorem dX12_sayNumber_19 : decode cX12_sayNumber 19 = .ok (.ifCond .le 25, 3) := by decide +kernel
theorem dX12_sayNumber_22 : decode cX12_sayNumber 22 = .ok (.aload_n 0, 1) := by decide +kernel
theorem dX12_sayNumber_23 : decode cX12_sayNumber 23 = .ok (.bipush 48, 2) := by decide +kernel
theorem dX12_sayNumber_25 : decode cX12_sayNumber 25 = .ok (.iload_n 1, 1) := by decide +kernel
theorem dX12_sayNumber_26 : decode cX12_sayNumber 26 = .ok (.iload_n 2, 1) := by decide +kernel
theorem dX12_sayNumber_27 : decode cX12_sayNumber 27 = .ok (.idiv, 1) := by decide +kernel
theorem dX12_sayNumber_28 : decode cX12_sayNumber 28 = .ok (.bipush 10, 2) := by decide +kernel
theorem dX12_sayNumber_30 : decode cX12_sayNumber 30 = .ok (.irem, 1) := by decide +kernel
theorem dX12_sayNumber_31 : decode cX12_sayNumber 31 = .ok (.iadd, 1) := by decide +kernel
theorem dX12_sayNumber_32 : decode cX12_sayNumber 32 = .ok (.i2c, 1) := by decide +kernel
theorem dX12_sayNumber_33 : decode cX12_sayNumber 33 = .ok (.invokevirtual 367, 3) := by decide +kernel
theorem dX12_sayNumber_36 : decode cX12_sayNumber 36 = .ok (.iload_n 2, 1) := by decide +kernel
theorem dX12_sayNumber_37 : decode cX12_sayNumber 37 = .ok (.bipush 10, 2) := by decide +kernel
theorem dX12_sayNumber_39 : decode cX12_sayNumber 39 = .ok (.idiv, 1) := by decide +kernel
theorem dX12_sayNumber_40 : decode cX12_sayNumber 40 = .ok (.istore_n 2, 1) := by decide +kernel
theorem dX12_sayNumber_41 : decode cX12_sayNumber 41 = .ok (.goto (-23), 3) := by decide +kernel
theorem dX12_sayNumber_44 : decode cX12_sayNumber 44 = .ok (.return_, 1) := by decide +kernel
theorem dX12_sayRemark_0 : decode cX12_sayRemark 0 = .ok (.aload_n 0, 1) := by decide +kernel
theorem dX12_sayRemark_1 : decode cX12_sayRemark 1 = .ok (.bipush 123, 2) := by decide +kernel
theorem dX12_sayRemark_3 : decode cX12_sayRemark 3 = .ok (.invokevirtual 367, 3) := by decide +kernel
theorem dX12_sayRemark_6 : decode cX12_sayRemark 6 = .ok (.iconst 0, 1) := by decide +kernel
theorem dX12_sayRemark_7 : decode cX12_sayRemark 7 = .ok (.istore_n 2, 1) := by decide +kernel
theorem dX12_sayRemark_8 : decode cX12_sayRemark 8 = .ok (.iload_n 2, 1) := by decide +kernel
theorem dX12_sayRemark_9 : decode cX12_sayRemark 9 = .ok (.aload_n 0, 1) := by decide +kernel
theorem dX12_sayRemark_10 : decode cX12_sayRemark 10 = .ok (.getfield 39, 3) := by decide +kernel
theorem dX12_sayRemark_13 : decode cX12_sayRemark 13 = .ok (.iload_n 1, 1) := by decide +kernel
theorem dX12_sayRemark_14 : decode cX12_sayRemark 14 = .ok (.iaload, 1) := by decide +kernel
theorem dX12_sayRemark_15 : decode cX12_sayRemark 15 = .ok (.if_icmp .ge 25, 3) := by decide +kernel
theorem dX12_sayRemark_18 : decode cX12_sayRemark 18 = .ok (.aload_n 0, 1) := by decide +kernel
theorem dX12_sayRemark_19 : decode cX12_sayRemark 19 = .ok (.aload_n 0, 1) := by decide +kernel
theorem dX12_sayRemark_20 : decode cX12_sayRemark 20 = .ok (.getfield 43, 3) := by decide +kernel
theorem dX12_sayRemark_23 : decode cX12_sayRemark 23 = .ok (.sipush 200, 3) := by decide +kernel
theorem dX12_sayRemark_26 : decode cX12_sayRemark 26 = .ok (.iload_n 1, 1) := by decide +kernel
theorem dX12_sayRemark_27 : decode cX12_sayRemark 27 = .ok (.imul, 1) := by decide +kernel
theorem dX12_sayRemark_28 : decode cX12_sayRemark 28 = .ok (.iload_n 2, 1) := by decide +kernel
theorem dX12_sayRemark_29 : decode cX12_sayRemark 29 = .ok (.iadd, 1) := by decide +kernel
theorem dX12_sayRemark_30 : decode cX12_sayRemark 30 = .ok (.caload, 1) := by decide +kernel
theorem dX12_sayRemark_31 : decode cX12_sayRemark 31 = .ok (.invokevirtual 367, 3) := by decide +kernel
theorem dX12_sayRemark_34 : decode cX12_sayRemark 34 = .ok (.iinc 2 1, 3) := by decide +kernel
theorem dX12_sayRemark_37 : decode cX12_sayRemark 37 = .ok (.goto (-29), 3) := by decide +kernel
theorem dX12_sayRemark_40 : decode cX12_sayRemark 40 = .ok (.aload_n 0, 1) := by decide +kernel
theorem dX12_sayRemark_41 : decode cX12_sayRemark 41 = .ok (.bipush 125, 2) := by decide +kernel
theorem dX12_sayRemark_43 : decode cX12_sayRemark 43 = .ok (.invokevirtual 367, 3) := by decide +kernel
theorem dX12_sayRemark_46 : decode cX12_sayRemark 46 = .ok (.return_, 1) := by decide +kernel
theorem dX12_sayMove_0 : decode cX12_sayMove 0 = .ok (.sipush 301, 3) := by decide +kernel
theorem dX12_sayMove_3 : decode cX12_sayMove 3 = .ok (.aload_n 0, 1) := by decide +kernel
theorem dX12_sayMove_4 : decode cX12_sayMove 4 = .ok (.getfield 347, 3) := by decide +kernel
theorem dX12_sayMove_7 : decode cX12_sayMove 7 = .ok (.imul, 1) := by decide +kernel
theorem dX12_sayMove_8 : decode cX12_sayMove 8 = .ok (.iload_n 1, 1) := by decide +kernel
theorem dX12_sayMove_9 : decode cX12_sayMove 9 = .ok (.iadd, 1) := by decide +kernel
theorem dX12_sayMove_10 : decode cX12_sayMove 10 = .ok (.istore_n 3, 1) := by decide +kernel
theorem dX12_sayMove_11 : decode cX12_sayMove 11 = .ok (.aload_n 0, 1) := by decide +kernel
theorem dX12_sayMove_12 : decode cX12_sayMove 12 = .ok (.aload_n 0, 1) := by decide +kernel
theorem dX12_sayMove_13 : decode cX12_sayMove 13 = .ok (.getfield 347, 3) := by decide +kernel
theorem dX12_sayMove_16 : decode cX12_sayMove 16 = .ok (.aload_n 0, 1) := by decide +kernel
theorem dX12_sayMove_17 : decode cX12_sayMove 17 = .ok (.getfield 21, 3) := by decide +kernel
theorem dX12_sayMove_20 : decode cX12_sayMove 20 = .ok (.iload_n 3, 1) := by decide +kernel
theorem dX12_sayMove_21 : decode cX12_sayMove 21 = .ok (.iaload, 1) := by decide +kernel
theorem dX12_sayMove_22 : decode cX12_sayMove 22 = .ok (.invokevirtual 95, 3) := by decide +kernel
theorem dX12_sayMove_25 : decode cX12_sayMove 25 = .ok (.aload_n 0, 1) := by decide +kernel
theorem dX12_sayMove_26 : decode cX12_sayMove 26 = .ok (.getfield 121, 3) := by decide +kernel
theorem dX12_sayMove_29 : decode cX12_sayMove 29 = .ok (.ifCond .eq 7, 3) := by decide +kernel
theorem dX12_sayMove_32 : decode cX12_sayMove 32 = .ok (.iload_n 2, 1) := by decide +kernel
theorem dX12_sayMove_33 : decode cX12_sayMove 33 = .ok (.ifCond .eq 49, 3) := by decide +kernel
theorem dX12_sayMove_36 : decode cX12_sayMove 36 = .ok (.aload_n 0, 1) := by decide +kernel
theorem dX12_sayMove_37 : decode cX12_sayMove 37 = .ok (.aload_n 0, 1) := by decide +kernel
theorem dX12_sayMove_38 : decode cX12_sayMove 38 = .ok (.getfield 133, 3) := by decide +kernel
theorem dX12_sayMove_41 : decode cX12_sayMove 41 = .ok (.invokevirtual 370, 3) := by decide +kernel
theorem dX12_sayMove_44 : decode cX12_sayMove 44 = .ok (.iconst 0, 1) := by decide +kernel
theorem dX12_sayMove_45 : decode cX12_sayMove 45 = .ok (.istore 4, 2) := by decide +kernel
theorem dX12_sayMove_47 : decode cX12_sayMove 47 = .ok (.iload 4, 2) := by decide +kernel
theorem dX12_sayMove_49 : decode cX12_sayMove 49 = .ok (.aload_n 0, 1) := by decide +kernel
theorem dX12_sayMove_50 : decode cX12_sayMove 50 = .ok (.getfield 121, 3) := by decide +kernel
theorem dX12_sayMove_53 : decode cX12_sayMove 53 = .ok (.ifCond .ne 7, 3) := by decide +kernel
theorem dX12_sayMove_56 : decode cX12_sayMove 56 = .ok (.iconst 1, 1) := by decide +kernel
theorem dX12_sayMove_57 : decode cX12_sayMove 57 = .ok (.goto 4, 3) := by decide +kernel
theorem dX12_sayMove_60 : decode cX12_sayMove 60 = .ok (.iconst 3, 1) := by decide +kernel
theorem dX12_sayMove_61 : decode cX12_sayMove 61 = .ok (.if_icmp .ge 15, 3) := by decide +kernel
theorem dX12_sayMove_64 : decode cX12_sayMove 64 = .ok (.aload_n 0, 1) := by decide +kernel
theorem dX12_sayMove_65 : decode cX12_sayMove 65 = .ok (.bipush 46, 2) := by decide +kernel
theorem dX12_sayMove_67 : decode cX12_sayMove 67 = .ok (.invokevirtual 367, 3) := by decide +kernel
theorem dX12_sayMove_70 : decode cX12_sayMove 70 = .ok (.iinc 4 1, 3) := by decide +kernel
theorem dX12_sayMove_73 : decode cX12_sayMove 73 = .ok (.goto (-26), 3) := by decide +kernel
theorem dX12_sayMove_76 : decode cX12_sayMove 76 = .ok (.aload_n 0, 1) := by decide +kernel
theorem dX12_sayMove_77 : decode cX12_sayMove 77 = .ok (.bipush 32, 2) := by decide +kernel
theorem dX12_sayMove_79 : decode cX12_sayMove 79 = .ok (.invokevirtual 367, 3) := by decide +kernel
theorem dX12_sayMove_82 : decode cX12_sayMove 82 = .ok (.aload_n 0, 1) := by decide +kernel
theorem dX12_sayMove_83 : decode cX12_sayMove 83 = .ok (.aload_n 0, 1) := by decide +kernel
theorem dX12_sayMove_84 : decode cX12_sayMove 84 = .ok (.getfield 24, 3) := by decide +kernel
theorem dX12_sayMove_87 : decode cX12_sayMove 87 = .ok (.iload_n 3, 1) := by decide +kernel
theorem dX12_sayMove_88 : decode cX12_sayMove 88 = .ok (.iaload, 1) := by decide +kernel
theorem dX12_sayMove_89 : decode cX12_sayMove 89 = .ok (.invokevirtual 373, 3) := by decide +kernel
theorem dX12_sayMove_92 : decode cX12_sayMove 92 = .ok (.iconst 0, 1) := by decide +kernel
theorem dX12_sayMove_93 : decode cX12_sayMove 93 = .ok (.istore 4, 2) := by decide +kernel
theorem dX12_sayMove_95 : decode cX12_sayMove 95 = .ok (.iload 4, 2) := by decide +kernel
theorem dX12_sayMove_97 : decode cX12_sayMove 97 = .ok (.aload_n 0, 1) := by decide +kernel
theorem dX12_sayMove_98 : decode cX12_sayMove 98 = .ok (.getfield 191, 3) := by decide +kernel
theorem dX12_sayMove_101 : decode cX12_sayMove 101 = .ok (.if_icmp .ge 20, 3) := by decide +kernel
theorem dX12_sayMove_104 : decode cX12_sayMove 104 = .ok (.aload_n 0, 1) := by decide +kernel
theorem dX12_sayMove_105 : decode cX12_sayMove 105 = .ok (.aload_n 0, 1) := by decide +kernel
theorem dX12_sayMove_106 : decode cX12_sayMove 106 = .ok (.getfield 85, 3) := by decide +kernel
theorem dX12_sayMove_109 : decode cX12_sayMove 109 = .ok (.iload 4, 2) := by decide +kernel
theorem dX12_sayMove_111 : decode cX12_sayMove 111 = .ok (.caload, 1) := by decide +kernel
theorem dX12_sayMove_112 : decode cX12_sayMove 112 = .ok (.invokevirtual 367, 3) := by decide +kernel
theorem dX12_sayMove_115 : decode cX12_sayMove 115 = .ok (.iinc 4 1, 3) := by decide +kernel
theorem dX12_sayMove_118 : decode cX12_sayMove 118 = .ok (.goto (-23), 3) := by decide +kernel
theorem dX12_sayMove_121 : decode cX12_sayMove 121 = .ok (.iconst 0, 1) := by decide +kernel
theorem dX12_sayMove_122 : decode cX12_sayMove 122 = .ok (.istore 4, 2) := by decide +kernel
theorem dX12_sayMove_124 : decode cX12_sayMove 124 = .ok (.iload 4, 2) := by decide +kernel
theorem dX12_sayMove_126 : decode cX12_sayMove 126 = .ok (.aload_n 0, 1) := by decide +kernel
theorem dX12_sayMove_127 : decode cX12_sayMove 127 = .ok (.getfield 33, 3) := by decide +kernel
theorem dX12_sayMove_130 : decode cX12_sayMove 130 = .ok (.iload_n 3, 1) := by decide +kernel
theorem dX12_sayMove_131 : decode cX12_sayMove 131 = .ok (.iaload, 1) := by decide +kernel
theorem dX12_sayMove_132 : decode cX12_sayMove 132 = .ok (.if_icmp .ge 36, 3) := by decide +kernel
theorem dX12_sayMove_135 : decode cX12_sayMove 135 = .ok (.aload_n 0, 1) := by decide +kernel
theorem dX12_sayMove_136 : decode cX12_sayMove 136 = .ok (.bipush 32, 2) := by decide +kernel
theorem dX12_sayMove_138 : decode cX12_sayMove 138 = .ok (.invokevirtual 367, 3) := by decide +kernel
theorem dX12_sayMove_141 : decode cX12_sayMove 141 = .ok (.aload_n 0, 1) := by decide +kernel
theorem dX12_sayMove_142 : decode cX12_sayMove 142 = .ok (.bipush 36, 2) := by decide +kernel
theorem dX12_sayMove_144 : decode cX12_sayMove 144 = .ok (.invokevirtual 367, 3) := by decide +kernel
theorem dX12_sayMove_147 : decode cX12_sayMove 147 = .ok (.aload_n 0, 1) := by decide +kernel
theorem dX12_sayMove_148 : decode cX12_sayMove 148 = .ok (.aload_n 0, 1) := by decide +kernel
theorem dX12_sayMove_149 : decode cX12_sayMove 149 = .ok (.getfield 36, 3) := by decide +kernel
theorem dX12_sayMove_152 : decode cX12_sayMove 152 = .ok (.iconst 4, 1) := by decide +kernel
theorem dX12_sayMove_153 : decode cX12_sayMove 153 = .ok (.iload_n 3, 1) := by decide +kernel
theorem dX12_sayMove_154 : decode cX12_sayMove 154 = .ok (.imul, 1) := by decide +kernel
theorem dX12_sayMove_155 : decode cX12_sayMove 155 = .ok (.iload 4, 2) := by decide +kernel
theorem dX12_sayMove_157 : decode cX12_sayMove 157 = .ok (.iadd, 1) := by decide +kernel
theorem dX12_sayMove_158 : decode cX12_sayMove 158 = .ok (.iaload, 1) := by decide +kernel
theorem dX12_sayMove_159 : decode cX12_sayMove 159 = .ok (.invokevirtual 370, 3) := by decide +kernel
theorem dX12_sayMove_162 : decode cX12_sayMove 162 = .ok (.iinc 4 1, 3) := by decide +kernel
theorem dX12_sayMove_165 : decode cX12_sayMove 165 = .ok (.goto (-41), 3) := by decide +kernel
theorem dX12_sayMove_168 : decode cX12_sayMove 168 = .ok (.aload_n 0, 1) := by decide +kernel
theorem dX12_sayMove_169 : decode cX12_sayMove 169 = .ok (.getfield 39, 3) := by decide +kernel
theorem dX12_sayMove_172 : decode cX12_sayMove 172 = .ok (.iload_n 3, 1) := by decide +kernel
theorem dX12_sayMove_173 : decode cX12_sayMove 173 = .ok (.iaload, 1) := by decide +kernel
theorem dX12_sayMove_174 : decode cX12_sayMove 174 = .ok (.ifCond .le 14, 3) := by decide +kernel
theorem dX12_sayMove_177 : decode cX12_sayMove 177 = .ok (.aload_n 0, 1) := by decide +kernel
theorem dX12_sayMove_178 : decode cX12_sayMove 178 = .ok (.bipush 32, 2) := by decide +kernel
theorem dX12_sayMove_180 : decode cX12_sayMove 180 = .ok (.invokevirtual 367, 3) := by decide +kernel
theorem dX12_sayMove_183 : decode cX12_sayMove 183 = .ok (.aload_n 0, 1) := by decide +kernel
theorem dX12_sayMove_184 : decode cX12_sayMove 184 = .ok (.iload_n 3, 1) := by decide +kernel
theorem dX12_sayMove_185 : decode cX12_sayMove 185 = .ok (.invokevirtual 376, 3) := by decide +kernel
theorem dX12_sayMove_188 : decode cX12_sayMove 188 = .ok (.return_, 1) := by decide +kernel
theorem dX12_sayLine_0 : decode cX12_sayLine 0 = .ok (.iload_n 1, 1) := by decide +kernel
theorem dX12_sayLine_1 : decode cX12_sayLine 1 = .ok (.istore_n 3, 1) := by decide +kernel
theorem dX12_sayLine_2 : decode cX12_sayLine 2 = .ok (.iconst 1, 1) := by decide +kernel
theorem dX12_sayLine_3 : decode cX12_sayLine 3 = .ok (.istore 4, 2) := by decide +kernel
theorem dX12_sayLine_5 : decode cX12_sayLine 5 = .ok (.iload_n 2, 1) := by decide +kernel
theorem dX12_sayLine_6 : decode cX12_sayLine 6 = .ok (.istore 5, 2) := by decide +kernel
theorem dX12_sayLine_8 : decode cX12_sayLine 8 = .ok (.iload_n 3, 1) := by decide +kernel
theorem dX12_sayLine_9 : decode cX12_sayLine 9 = .ok (.ifCond .lt 135, 3) := by decide +kernel
theorem dX12_sayLine_12 : decode cX12_sayLine 12 = .ok (.sipush 301, 3) := by decide +kernel
theorem dX12_sayLine_15 : decode cX12_sayLine 15 = .ok (.aload_n 0, 1) := by decide +kernel
theorem dX12_sayLine_16 : decode cX12_sayLine 16 = .ok (.getfield 347, 3) := by decide +kernel
theorem dX12_sayLine_19 : decode cX12_sayLine 19 = .ok (.imul, 1) := by decide +kernel
theorem dX12_sayLine_20 : decode cX12_sayLine 20 = .ok (.iload_n 3, 1) := by decide +kernel
theorem dX12_sayLine_21 : decode cX12_sayLine 21 = .ok (.iadd, 1) := by decide +kernel
theorem dX12_sayLine_22 : decode cX12_sayLine 22 = .ok (.istore 6, 2) := by decide +kernel
theorem dX12_sayLine_24 : decode cX12_sayLine 24 = .ok (.aload_n 0, 1) := by decide +kernel
theorem dX12_sayLine_25 : decode cX12_sayLine 25 = .ok (.iload_n 3, 1) := by decide +kernel
theorem dX12_sayLine_26 : decode cX12_sayLine 26 = .ok (.iload 4, 2) := by decide +kernel
theorem dX12_sayLine_28 : decode cX12_sayLine 28 = .ok (.invokevirtual 379, 3) := by decide +kernel
theorem dX12_sayLine_31 : decode cX12_sayLine 31 = .ok (.aload_n 0, 1) := by decide +kernel
theorem dX12_sayLine_32 : decode cX12_sayLine 32 = .ok (.getfield 39, 3) := by decide +kernel
theorem dX12_sayLine_35 : decode cX12_sayLine 35 = .ok (.iload 6, 2) := by decide +kernel
theorem dX12_sayLine_37 : decode cX12_sayLine 37 = .ok (.iaload, 1) := by decide +kernel
theorem dX12_sayLine_38 : decode cX12_sayLine 38 = .ok (.ifCond .le 7, 3) := by decide +kernel
theorem dX12_sayLine_41 : decode cX12_sayLine 41 = .ok (.iconst 1, 1) := by decide +kernel
theorem dX12_sayLine_42 : decode cX12_sayLine 42 = .ok (.goto 4, 3) := by decide +kernel
theorem dX12_sayLine_45 : decode cX12_sayLine 45 = .ok (.iconst 0, 1) := by decide +kernel
theorem dX12_sayLine_46 : decode cX12_sayLine 46 = .ok (.istore 4, 2) := by decide +kernel
theorem dX12_sayLine_48 : decode cX12_sayLine 48 = .ok (.iload 5, 2) := by decide +kernel
theorem dX12_sayLine_50 : decode cX12_sayLine 50 = .ok (.ifCond .eq 13, 3) := by decide +kernel
theorem dX12_sayLine_53 : decode cX12_sayLine 53 = .ok (.aload_n 0, 1) := by decide +kernel
theorem dX12_sayLine_54 : decode cX12_sayLine 54 = .ok (.getfield 30, 3) := by decide +kernel
theorem dX12_sayLine_57 : decode cX12_sayLine 57 = .ok (.iload 6, 2) := by decide +kernel
theorem dX12_sayLine_59 : decode cX12_sayLine 59 = .ok (.iaload, 1) := by decide +kernel
theorem dX12_sayLine_60 : decode cX12_sayLine 60 = .ok (.goto 4, 3) := by decide +kernel
theorem dX12_sayLine_63 : decode cX12_sayLine 63 = .ok (.iconst (-1), 1) := by decide +kernel
theorem dX12_sayLine_64 : decode cX12_sayLine 64 = .ok (.istore 7, 2) := by decide +kernel
theorem dX12_sayLine_66 : decode cX12_sayLine 66 = .ok (.iload 7, 2) := by decide +kernel
theorem dX12_sayLine_68 : decode cX12_sayLine 68 = .ok (.ifCond .lt 52, 3) := by decide +kernel
theorem dX12_sayLine_71 : decode cX12_sayLine 71 = .ok (.aload_n 0, 1) := by decide +kernel
theorem dX12_sayLine_72 : decode cX12_sayLine 72 = .ok (.bipush 32, 2) := by decide +kernel
theorem dX12_sayLine_74 : decode cX12_sayLine 74 = .ok (.invokevirtual 367, 3) := by decide +kernel
theorem dX12_sayLine_77 : decode cX12_sayLine 77 = .ok (.aload_n 0, 1) := by decide +kernel
theorem dX12_sayLine_78 : decode cX12_sayLine 78 = .ok (.bipush 40, 2) := by decide +kernel
theorem dX12_sayLine_80 : decode cX12_sayLine 80 = .ok (.invokevirtual 367, 3) := by decide +kernel
theorem dX12_sayLine_83 : decode cX12_sayLine 83 = .ok (.aload_n 0, 1) := by decide +kernel
theorem dX12_sayLine_84 : decode cX12_sayLine 84 = .ok (.iload 7, 2) := by decide +kernel
theorem dX12_sayLine_86 : decode cX12_sayLine 86 = .ok (.iconst 0, 1) := by decide +kernel
theorem dX12_sayLine_87 : decode cX12_sayLine 87 = .ok (.invokevirtual 383, 3) := by decide +kernel
theorem dX12_sayLine_90 : decode cX12_sayLine 90 = .ok (.aload_n 0, 1) := by decide +kernel
theorem dX12_sayLine_91 : decode cX12_sayLine 91 = .ok (.bipush 41, 2) := by decide +kernel
theorem dX12_sayLine_93 : decode cX12_sayLine 93 = .ok (.invokevirtual 367, 3) := by decide +kernel
theorem dX12_sayLine_96 : decode cX12_sayLine 96 = .ok (.iconst 1, 1) := by decide +kernel
theorem dX12_sayLine_97 : decode cX12_sayLine 97 = .ok (.istore 4, 2) := by decide +kernel
theorem dX12_sayLine_99 : decode cX12_sayLine 99 = .ok (.aload_n 0, 1) := by decide +kernel
theorem dX12_sayLine_100 : decode cX12_sayLine 100 = .ok (.getfield 30, 3) := by decide +kernel
theorem dX12_sayLine_103 : decode cX12_sayLine 103 = .ok (.sipush 301, 3) := by decide +kernel
theorem dX12_sayLine_106 : decode cX12_sayLine 106 = .ok (.aload_n 0, 1) := by decide +kernel
theorem dX12_sayLine_107 : decode cX12_sayLine 107 = .ok (.getfield 347, 3) := by decide +kernel
theorem dX12_sayLine_110 : decode cX12_sayLine 110 = .ok (.imul, 1) := by decide +kernel
theorem dX12_sayLine_111 : decode cX12_sayLine 111 = .ok (.iload 7, 2) := by decide +kernel
theorem dX12_sayLine_113 : decode cX12_sayLine 113 = .ok (.iadd, 1) := by decide +kernel
theorem dX12_sayLine_114 : decode cX12_sayLine 114 = .ok (.iaload, 1) := by decide +kernel
theorem dX12_sayLine_115 : decode cX12_sayLine 115 = .ok (.istore 7, 2) := by decide +kernel
theorem dX12_sayLine_117 : decode cX12_sayLine 117 = .ok (.goto (-51), 3) := by decide +kernel
theorem dX12_sayLine_120 : decode cX12_sayLine 120 = .ok (.iconst 1, 1) := by decide +kernel
theorem dX12_sayLine_121 : decode cX12_sayLine 121 = .ok (.istore 5, 2) := by decide +kernel
theorem dX12_sayLine_123 : decode cX12_sayLine 123 = .ok (.aload_n 0, 1) := by decide +kernel
theorem dX12_sayLine_124 : decode cX12_sayLine 124 = .ok (.getfield 27, 3) := by decide +kernel
theorem dX12_sayLine_127 : decode cX12_sayLine 127 = .ok (.iload 6, 2) := by decide +kernel
theorem dX12_sayLine_129 : decode cX12_sayLine 129 = .ok (.iaload, 1) := by decide +kernel
theorem dX12_sayLine_130 : decode cX12_sayLine 130 = .ok (.istore_n 3, 1) := by decide +kernel
theorem dX12_sayLine_131 : decode cX12_sayLine 131 = .ok (.iload_n 3, 1) := by decide +kernel
theorem dX12_sayLine_132 : decode cX12_sayLine 132 = .ok (.ifCond .lt 9, 3) := by decide +kernel
theorem dX12_sayLine_135 : decode cX12_sayLine 135 = .ok (.aload_n 0, 1) := by decide +kernel
theorem dX12_sayLine_136 : decode cX12_sayLine 136 = .ok (.bipush 32, 2) := by decide +kernel
theorem dX12_sayLine_138 : decode cX12_sayLine 138 = .ok (.invokevirtual 367, 3) := by decide +kernel
theorem dX12_sayLine_141 : decode cX12_sayLine 141 = .ok (.goto (-133), 3) := by decide +kernel
theorem dX12_sayLine_144 : decode cX12_sayLine 144 = .ok (.return_, 1) := by decide +kernel
theorem dX12_write_0 : decode cX12_write 0 = .ok (.aload_n 0, 1) := by decide +kernel
theorem dX12_write_1 : decode cX12_write 1 = .ok (.iconst 0, 1) := by decide +kernel
theorem dX12_write_2 : decode cX12_write 2 = .ok (.putfield 99, 3) := by decide +kernel
theorem dX12_write_5 : decode cX12_write 5 = .ok (.aload_n 0, 1) := by decide +kernel
theorem dX12_write_6 : decode cX12_write 6 = .ok (.iconst 0, 1) := by decide +kernel
theorem dX12_write_7 : decode cX12_write 7 = .ok (.putfield 364, 3) := by decide +kernel
theorem dX12_write_10 : decode cX12_write 10 = .ok (.iconst 0, 1) := by decide +kernel
theorem dX12_write_11 : decode cX12_write 11 = .ok (.istore_n 1, 1) := by decide +kernel
theorem dX12_write_12 : decode cX12_write 12 = .ok (.iload_n 1, 1) := by decide +kernel
theorem dX12_write_13 : decode cX12_write 13 = .ok (.aload_n 0, 1) := by decide +kernel
theorem dX12_write_14 : decode cX12_write 14 = .ok (.getfield 52, 3) := by decide +kernel
theorem dX12_write_17 : decode cX12_write 17 = .ok (.aload_n 0, 1) := by decide +kernel
theorem dX12_write_18 : decode cX12_write 18 = .ok (.getfield 347, 3) := by decide +kernel
theorem dX12_write_21 : decode cX12_write 21 = .ok (.iaload, 1) := by decide +kernel
theorem dX12_write_22 : decode cX12_write 22 = .ok (.if_icmp .ge 164, 3) := by decide +kernel
theorem dX12_write_25 : decode cX12_write 25 = .ok (.aload_n 0, 1) := by decide +kernel
theorem dX12_write_26 : decode cX12_write 26 = .ok (.bipush 91, 2) := by decide +kernel
theorem dX12_write_28 : decode cX12_write 28 = .ok (.invokevirtual 367, 3) := by decide +kernel
theorem dX12_write_31 : decode cX12_write 31 = .ok (.iconst 0, 1) := by decide +kernel
theorem dX12_write_32 : decode cX12_write 32 = .ok (.istore_n 2, 1) := by decide +kernel
theorem dX12_write_33 : decode cX12_write 33 = .ok (.iload_n 2, 1) := by decide +kernel
theorem dX12_write_34 : decode cX12_write 34 = .ok (.aload_n 0, 1) := by decide +kernel
theorem dX12_write_35 : decode cX12_write 35 = .ok (.getfield 55, 3) := by decide +kernel
theorem dX12_write_38 : decode cX12_write 38 = .ok (.bipush 8, 2) := by decide +kernel
theorem dX12_write_40 : decode cX12_write 40 = .ok (.aload_n 0, 1) := by decide +kernel
theorem dX12_write_41 : decode cX12_write 41 = .ok (.getfield 347, 3) := by decide +kernel
theorem dX12_write_44 : decode cX12_write 44 = .ok (.imul, 1) := by decide +kernel
theorem dX12_write_45 : decode cX12_write 45 = .ok (.iload_n 1, 1) := by decide +kernel
theorem dX12_write_46 : decode cX12_write 46 = .ok (.iadd, 1) := by decide +kernel
theorem dX12_write_47 : decode cX12_write 47 = .ok (.iaload, 1) := by decide +kernel
theorem dX12_write_48 : decode cX12_write 48 = .ok (.if_icmp .ge 32, 3) := by decide +kernel
theorem dX12_write_51 : decode cX12_write 51 = .ok (.aload_n 0, 1) := by decide +kernel
theorem dX12_write_52 : decode cX12_write 52 = .ok (.aload_n 0, 1) := by decide +kernel
theorem dX12_write_53 : decode cX12_write 53 = .ok (.getfield 58, 3) := by decide +kernel
theorem dX12_write_56 : decode cX12_write 56 = .ok (.bipush 96, 2) := by decide +kernel
theorem dX12_write_58 : decode cX12_write 58 = .ok (.aload_n 0, 1) := by decide +kernel
theorem dX12_write_59 : decode cX12_write 59 = .ok (.getfield 347, 3) := by decide +kernel
theorem dX12_write_62 : decode cX12_write 62 = .ok (.imul, 1) := by decide +kernel
theorem dX12_write_63 : decode cX12_write 63 = .ok (.bipush 12, 2) := by decide +kernel
theorem dX12_write_65 : decode cX12_write 65 = .ok (.iload_n 1, 1) := by decide +kernel
theorem dX12_write_66 : decode cX12_write 66 = .ok (.imul, 1) := by decide +kernel
theorem dX12_write_67 : decode cX12_write 67 = .ok (.iadd, 1) := by decide +kernel
theorem dX12_write_68 : decode cX12_write 68 = .ok (.iload_n 2, 1) := by decide +kernel
theorem dX12_write_69 : decode cX12_write 69 = .ok (.iadd, 1) := by decide +kernel
theorem dX12_write_70 : decode cX12_write 70 = .ok (.caload, 1) := by decide +kernel
theorem dX12_write_71 : decode cX12_write 71 = .ok (.invokevirtual 367, 3) := by decide +kernel
theorem dX12_write_74 : decode cX12_write 74 = .ok (.iinc 2 1, 3) := by decide +kernel
theorem dX12_write_77 : decode cX12_write 77 = .ok (.goto (-44), 3) := by decide +kernel
theorem dX12_write_80 : decode cX12_write 80 = .ok (.aload_n 0, 1) := by decide +kernel
theorem dX12_write_81 : decode cX12_write 81 = .ok (.bipush 32, 2) := by decide +kernel
theorem dX12_write_83 : decode cX12_write 83 = .ok (.invokevirtual 367, 3) := by decide +kernel
theorem dX12_write_86 : decode cX12_write 86 = .ok (.aload_n 0, 1) := by decide +kernel
theorem dX12_write_87 : decode cX12_write 87 = .ok (.bipush 34, 2) := by decide +kernel
theorem dX12_write_89 : decode cX12_write 89 = .ok (.invokevirtual 367, 3) := by decide +kernel
theorem dX12_write_92 : decode cX12_write 92 = .ok (.iconst 0, 1) := by decide +kernel
theorem dX12_write_93 : decode cX12_write 93 = .ok (.istore_n 2, 1) := by decide +kernel
theorem dX12_write_94 : decode cX12_write 94 = .ok (.iload_n 2, 1) := by decide +kernel
theorem dX12_write_95 : decode cX12_write 95 = .ok (.aload_n 0, 1) := by decide +kernel
theorem dX12_write_96 : decode cX12_write 96 = .ok (.getfield 61, 3) := by decide +kernel
theorem dX12_write_99 : decode cX12_write 99 = .ok (.bipush 8, 2) := by decide +kernel
theorem dX12_write_101 : decode cX12_write 101 = .ok (.aload_n 0, 1) := by decide +kernel
theorem dX12_write_102 : decode cX12_write 102 = .ok (.getfield 347, 3) := by decide +kernel
theorem dX12_write_105 : decode cX12_write 105 = .ok (.imul, 1) := by decide +kernel
theorem dX12_write_106 : decode cX12_write 106 = .ok (.iload_n 1, 1) := by decide +kernel
theorem dX12_write_107 : decode cX12_write 107 = .ok (.iadd, 1) := by decide +kernel
theorem dX12_write_108 : decode cX12_write 108 = .ok (.iaload, 1) := by decide +kernel
theorem dX12_write_109 : decode cX12_write 109 = .ok (.if_icmp .ge 53, 3) := by decide +kernel
theorem dX12_write_112 : decode cX12_write 112 = .ok (.aload_n 0, 1) := by decide +kernel
theorem dX12_write_113 : decode cX12_write 113 = .ok (.getfield 64, 3) := by decide +kernel
theorem dX12_write_116 : decode cX12_write 116 = .ok (.sipush 768, 3) := by decide +kernel
theorem dX12_write_119 : decode cX12_write 119 = .ok (.aload_n 0, 1) := by decide +kernel
theorem dX12_write_120 : decode cX12_write 120 = .ok (.getfield 347, 3) := by decide +kernel
theorem dX12_write_123 : decode cX12_write 123 = .ok (.imul, 1) := by decide +kernel
theorem dX12_write_124 : decode cX12_write 124 = .ok (.bipush 96, 2) := by decide +kernel
theorem dX12_write_126 : decode cX12_write 126 = .ok (.iload_n 1, 1) := by decide +kernel
theorem dX12_write_127 : decode cX12_write 127 = .ok (.imul, 1) := by decide +kernel
theorem dX12_write_128 : decode cX12_write 128 = .ok (.iadd, 1) := by decide +kernel
theorem dX12_write_129 : decode cX12_write 129 = .ok (.iload_n 2, 1) := by decide +kernel
theorem dX12_write_130 : decode cX12_write 130 = .ok (.iadd, 1) := by decide +kernel
theorem dX12_write_131 : decode cX12_write 131 = .ok (.caload, 1) := by decide +kernel
theorem dX12_write_132 : decode cX12_write 132 = .ok (.istore_n 3, 1) := by decide +kernel
theorem dX12_write_133 : decode cX12_write 133 = .ok (.iload_n 3, 1) := by decide +kernel
theorem dX12_write_134 : decode cX12_write 134 = .ok (.bipush 34, 2) := by decide +kernel
theorem dX12_write_136 : decode cX12_write 136 = .ok (.if_icmp .eq 9, 3) := by decide +kernel
theorem dX12_write_139 : decode cX12_write 139 = .ok (.iload_n 3, 1) := by decide +kernel
theorem dX12_write_140 : decode cX12_write 140 = .ok (.bipush 92, 2) := by decide +kernel
theorem dX12_write_142 : decode cX12_write 142 = .ok (.if_icmp .ne 9, 3) := by decide +kernel
theorem dX12_write_145 : decode cX12_write 145 = .ok (.aload_n 0, 1) := by decide +kernel
theorem dX12_write_146 : decode cX12_write 146 = .ok (.bipush 92, 2) := by decide +kernel
theorem dX12_write_148 : decode cX12_write 148 = .ok (.invokevirtual 367, 3) := by decide +kernel
theorem dX12_write_151 : decode cX12_write 151 = .ok (.aload_n 0, 1) := by decide +kernel
theorem dX12_write_152 : decode cX12_write 152 = .ok (.iload_n 3, 1) := by decide +kernel
theorem dX12_write_153 : decode cX12_write 153 = .ok (.invokevirtual 367, 3) := by decide +kernel
theorem dX12_write_156 : decode cX12_write 156 = .ok (.iinc 2 1, 3) := by decide +kernel
theorem dX12_write_159 : decode cX12_write 159 = .ok (.goto (-65), 3) := by decide +kernel
theorem dX12_write_162 : decode cX12_write 162 = .ok (.aload_n 0, 1) := by decide +kernel
theorem dX12_write_163 : decode cX12_write 163 = .ok (.bipush 34, 2) := by decide +kernel
theorem dX12_write_165 : decode cX12_write 165 = .ok (.invokevirtual 367, 3) := by decide +kernel
theorem dX12_write_168 : decode cX12_write 168 = .ok (.aload_n 0, 1) := by decide +kernel
theorem dX12_write_169 : decode cX12_write 169 = .ok (.bipush 93, 2) := by decide +kernel
theorem dX12_write_171 : decode cX12_write 171 = .ok (.invokevirtual 367, 3) := by decide +kernel
theorem dX12_write_174 : decode cX12_write 174 = .ok (.aload_n 0, 1) := by decide +kernel
theorem dX12_write_175 : decode cX12_write 175 = .ok (.bipush 10, 2) := by decide +kernel
theorem dX12_write_177 : decode cX12_write 177 = .ok (.invokevirtual 367, 3) := by decide +kernel
theorem dX12_write_180 : decode cX12_write 180 = .ok (.iinc 1 1, 3) := by decide +kernel
theorem dX12_write_183 : decode cX12_write 183 = .ok (.goto (-171), 3) := by decide +kernel
theorem dX12_write_186 : decode cX12_write 186 = .ok (.aload_n 0, 1) := by decide +kernel
theorem dX12_write_187 : decode cX12_write 187 = .ok (.getfield 52, 3) := by decide +kernel
theorem dX12_write_190 : decode cX12_write 190 = .ok (.aload_n 0, 1) := by decide +kernel
theorem dX12_write_191 : decode cX12_write 191 = .ok (.getfield 347, 3) := by decide +kernel
theorem dX12_write_194 : decode cX12_write 194 = .ok (.iaload, 1) := by decide +kernel
theorem dX12_write_195 : decode cX12_write 195 = .ok (.ifCond .le 9, 3) := by decide +kernel
theorem dX12_write_198 : decode cX12_write 198 = .ok (.aload_n 0, 1) := by decide +kernel
theorem dX12_write_199 : decode cX12_write 199 = .ok (.bipush 10, 2) := by decide +kernel
theorem dX12_write_201 : decode cX12_write 201 = .ok (.invokevirtual 367, 3) := by decide +kernel
theorem dX12_write_204 : decode cX12_write 204 = .ok (.aload_n 0, 1) := by decide +kernel
theorem dX12_write_205 : decode cX12_write 205 = .ok (.getfield 39, 3) := by decide +kernel
theorem dX12_write_208 : decode cX12_write 208 = .ok (.sipush 301, 3) := by decide +kernel
theorem dX12_write_211 : decode cX12_write 211 = .ok (.aload_n 0, 1) := by decide +kernel
theorem dX12_write_212 : decode cX12_write 212 = .ok (.getfield 347, 3) := by decide +kernel
theorem dX12_write_215 : decode cX12_write 215 = .ok (.imul, 1) := by decide +kernel
theorem dX12_write_216 : decode cX12_write 216 = .ok (.iaload, 1) := by decide +kernel
theorem dX12_write_217 : decode cX12_write 217 = .ok (.ifCond .le 21, 3) := by decide +kernel
theorem dX12_write_220 : decode cX12_write 220 = .ok (.aload_n 0, 1) := by decide +kernel
theorem dX12_write_221 : decode cX12_write 221 = .ok (.sipush 301, 3) := by decide +kernel
theorem dX12_write_224 : decode cX12_write 224 = .ok (.aload_n 0, 1) := by decide +kernel
theorem dX12_write_225 : decode cX12_write 225 = .ok (.getfield 347, 3) := by decide +kernel
theorem dX12_write_228 : decode cX12_write 228 = .ok (.imul, 1) := by decide +kernel
theorem dX12_write_229 : decode cX12_write 229 = .ok (.invokevirtual 376, 3) := by decide +kernel
theorem dX12_write_232 : decode cX12_write 232 = .ok (.aload_n 0, 1) := by decide +kernel
theorem dX12_write_233 : decode cX12_write 233 = .ok (.bipush 32, 2) := by decide +kernel
theorem dX12_write_235 : decode cX12_write 235 = .ok (.invokevirtual 367, 3) := by decide +kernel
theorem dX12_write_238 : decode cX12_write 238 = .ok (.aload_n 0, 1) := by decide +kernel
theorem dX12_write_239 : decode cX12_write 239 = .ok (.getfield 27, 3) := by decide +kernel
theorem dX12_write_242 : decode cX12_write 242 = .ok (.sipush 301, 3) := by decide +kernel
theorem dX12_write_245 : decode cX12_write 245 = .ok (.aload_n 0, 1) := by decide +kernel
theorem dX12_write_246 : decode cX12_write 246 = .ok (.getfield 347, 3) := by decide +kernel
theorem dX12_write_249 : decode cX12_write 249 = .ok (.imul, 1) := by decide +kernel
theorem dX12_write_250 : decode cX12_write 250 = .ok (.iaload, 1) := by decide +kernel
theorem dX12_write_251 : decode cX12_write 251 = .ok (.ifCond .lt 27, 3) := by decide +kernel
theorem dX12_write_254 : decode cX12_write 254 = .ok (.aload_n 0, 1) := by decide +kernel
theorem dX12_write_255 : decode cX12_write 255 = .ok (.aload_n 0, 1) := by decide +kernel
theorem dX12_write_256 : decode cX12_write 256 = .ok (.getfield 27, 3) := by decide +kernel
theorem dX12_write_259 : decode cX12_write 259 = .ok (.sipush 301, 3) := by decide +kernel
theorem dX12_write_262 : decode cX12_write 262 = .ok (.aload_n 0, 1) := by decide +kernel
theorem dX12_write_263 : decode cX12_write 263 = .ok (.getfield 347, 3) := by decide +kernel
theorem dX12_write_266 : decode cX12_write 266 = .ok (.imul, 1) := by decide +kernel
theorem dX12_write_267 : decode cX12_write 267 = .ok (.iaload, 1) := by decide +kernel
theorem dX12_write_268 : decode cX12_write 268 = .ok (.iconst 1, 1) := by decide +kernel
theorem dX12_write_269 : decode cX12_write 269 = .ok (.invokevirtual 383, 3) := by decide +kernel
theorem dX12_write_272 : decode cX12_write 272 = .ok (.aload_n 0, 1) := by decide +kernel
theorem dX12_write_273 : decode cX12_write 273 = .ok (.bipush 32, 2) := by decide +kernel
theorem dX12_write_275 : decode cX12_write 275 = .ok (.invokevirtual 367, 3) := by decide +kernel
theorem dX12_write_278 : decode cX12_write 278 = .ok (.iconst 0, 1) := by decide +kernel
theorem dX12_write_279 : decode cX12_write 279 = .ok (.istore_n 1, 1) := by decide +kernel
theorem dX12_write_280 : decode cX12_write 280 = .ok (.iload_n 1, 1) := by decide +kernel
theorem dX12_write_281 : decode cX12_write 281 = .ok (.aload_n 0, 1) := by decide +kernel
theorem dX12_write_282 : decode cX12_write 282 = .ok (.getfield 67, 3) := by decide +kernel
theorem dX12_write_285 : decode cX12_write 285 = .ok (.aload_n 0, 1) := by decide +kernel
theorem dX12_write_286 : decode cX12_write 286 = .ok (.getfield 347, 3) := by decide +kernel
theorem dX12_write_289 : decode cX12_write 289 = .ok (.iaload, 1) := by decide +kernel
theorem dX12_write_290 : decode cX12_write 290 = .ok (.invokestatic 340, 3) := by decide +kernel
theorem dX12_write_293 : decode cX12_write 293 = .ok (.if_icmp .ge 26, 3) := by decide +kernel
theorem dX12_write_296 : decode cX12_write 296 = .ok (.aload_n 0, 1) := by decide +kernel
theorem dX12_write_297 : decode cX12_write 297 = .ok (.aload_n 0, 1) := by decide +kernel
theorem dX12_write_298 : decode cX12_write 298 = .ok (.getfield 67, 3) := by decide +kernel
theorem dX12_write_301 : decode cX12_write 301 = .ok (.aload_n 0, 1) := by decide +kernel
theorem dX12_write_302 : decode cX12_write 302 = .ok (.getfield 347, 3) := by decide +kernel
theorem dX12_write_305 : decode cX12_write 305 = .ok (.iaload, 1) := by decide +kernel
theorem dX12_write_306 : decode cX12_write 306 = .ok (.iload_n 1, 1) := by decide +kernel
theorem dX12_write_307 : decode cX12_write 307 = .ok (.invokestatic 343, 3) := by decide +kernel
theorem dX12_write_310 : decode cX12_write 310 = .ok (.invokevirtual 367, 3) := by decide +kernel
theorem dX12_write_313 : decode cX12_write 313 = .ok (.iinc 1 1, 3) := by decide +kernel
theorem dX12_write_316 : decode cX12_write 316 = .ok (.goto (-36), 3) := by decide +kernel
theorem dX12_write_319 : decode cX12_write 319 = .ok (.aload_n 0, 1) := by decide +kernel
theorem dX12_write_320 : decode cX12_write 320 = .ok (.aload_n 0, 1) := by decide +kernel
theorem dX12_write_321 : decode cX12_write 321 = .ok (.getfield 347, 3) := by decide +kernel
theorem dX12_write_324 : decode cX12_write 324 = .ok (.aload_n 0, 1) := by decide +kernel
theorem dX12_write_325 : decode cX12_write 325 = .ok (.getfield 353, 3) := by decide +kernel
theorem dX12_write_328 : decode cX12_write 328 = .ok (.invokevirtual 95, 3) := by decide +kernel
theorem dX12_write_331 : decode cX12_write 331 = .ok (.aload_n 0, 1) := by decide +kernel
theorem dX12_write_332 : decode cX12_write 332 = .ok (.getfield 364, 3) := by decide +kernel
theorem dX12_write_335 : decode cX12_write 335 = .ok (.ireturn, 1) := by decide +kernel
theorem dX12_isLegal_0 : decode cX12_isLegal 0 = .ok (.iconst 0, 1) := by decide +kernel
theorem dX12_isLegal_1 : decode cX12_isLegal 1 = .ok (.istore_n 2, 1) := by decide +kernel
theorem dX12_isLegal_2 : decode cX12_isLegal 2 = .ok (.iconst 0, 1) := by decide +kernel
theorem dX12_isLegal_3 : decode cX12_isLegal 3 = .ok (.istore_n 3, 1) := by decide +kernel
theorem dX12_isLegal_4 : decode cX12_isLegal 4 = .ok (.iload_n 3, 1) := by decide +kernel
theorem dX12_isLegal_5 : decode cX12_isLegal 5 = .ok (.aload_n 0, 1) := by decide +kernel
theorem dX12_isLegal_6 : decode cX12_isLegal 6 = .ok (.getfield 170, 3) := by decide +kernel
theorem dX12_isLegal_9 : decode cX12_isLegal 9 = .ok (.if_icmp .ge 29, 3) := by decide +kernel
theorem dX12_isLegal_12 : decode cX12_isLegal 12 = .ok (.iload_n 2, 1) := by decide +kernel
theorem dX12_isLegal_13 : decode cX12_isLegal 13 = .ok (.ifCond .ne 13, 3) := by decide +kernel
theorem dX12_isLegal_16 : decode cX12_isLegal 16 = .ok (.aload_n 0, 1) := by decide +kernel
theorem dX12_isLegal_17 : decode cX12_isLegal 17 = .ok (.getfield 79, 3) := by decide +kernel
theorem dX12_isLegal_20 : decode cX12_isLegal 20 = .ok (.iload_n 3, 1) := by decide +kernel
theorem dX12_isLegal_21 : decode cX12_isLegal 21 = .ok (.iaload, 1) := by decide +kernel
theorem dX12_isLegal_22 : decode cX12_isLegal 22 = .ok (.iload_n 1, 1) := by decide +kernel
theorem dX12_isLegal_23 : decode cX12_isLegal 23 = .ok (.if_icmp .ne 7, 3) := by decide +kernel
theorem dX12_isLegal_26 : decode cX12_isLegal 26 = .ok (.iconst 1, 1) := by decide +kernel
theorem dX12_isLegal_27 : decode cX12_isLegal 27 = .ok (.goto 4, 3) := by decide +kernel
theorem dX12_isLegal_30 : decode cX12_isLegal 30 = .ok (.iconst 0, 1) := by decide +kernel
theorem dX12_isLegal_31 : decode cX12_isLegal 31 = .ok (.istore_n 2, 1) := by decide +kernel
theorem dX12_isLegal_32 : decode cX12_isLegal 32 = .ok (.iinc 3 1, 3) := by decide +kernel
theorem dX12_isLegal_35 : decode cX12_isLegal 35 = .ok (.goto (-31), 3) := by decide +kernel
theorem dX12_isLegal_38 : decode cX12_isLegal 38 = .ok (.iload_n 2, 1) := by decide +kernel
theorem dX12_isLegal_39 : decode cX12_isLegal 39 = .ok (.ireturn, 1) := by decide +kernel
theorem dX12_signs_0 : decode cX12_signs 0 = .ok (.aload_n 0, 1) := by decide +kernel
theorem dX12_signs_1 : decode cX12_signs 1 = .ok (.aload_n 0, 1) := by decide +kernel
theorem dX12_signs_2 : decode cX12_signs 2 = .ok (.iload_n 1, 1) := by decide +kernel
theorem dX12_signs_3 : decode cX12_signs 3 = .ok (.invokevirtual 386, 3) := by decide +kernel
theorem dX12_signs_6 : decode cX12_signs 6 = .ok (.ifCond .eq 7, 3) := by decide +kernel
theorem dX12_signs_9 : decode cX12_signs 9 = .ok (.iconst 0, 1) := by decide +kernel
theorem dX12_signs_10 : decode cX12_signs 10 = .ok (.goto 4, 3) := by decide +kernel
theorem dX12_signs_13 : decode cX12_signs 13 = .ok (.iconst 1, 1) := by decide +kernel
theorem dX12_signs_14 : decode cX12_signs 14 = .ok (.putfield 99, 3) := by decide +kernel
theorem dX12_signs_17 : decode cX12_signs 17 = .ok (.aload_n 0, 1) := by decide +kernel
theorem dX12_signs_18 : decode cX12_signs 18 = .ok (.getfield 99, 3) := by decide +kernel
theorem dX12_signs_21 : decode cX12_signs 21 = .ok (.ifCond .le 5, 3) := by decide +kernel
theorem dX12_signs_24 : decode cX12_signs 24 = .ok (.iconst 0, 1) := by decide +kernel
theorem dX12_signs_25 : decode cX12_signs 25 = .ok (.ireturn, 1) := by decide +kernel
theorem dX12_signs_26 : decode cX12_signs 26 = .ok (.aload_n 0, 1) := by decide +kernel
theorem dX12_signs_27 : decode cX12_signs 27 = .ok (.iload_n 1, 1) := by decide +kernel
theorem dX12_signs_28 : decode cX12_signs 28 = .ok (.invokevirtual 373, 3) := by decide +kernel
theorem dX12_signs_31 : decode cX12_signs 31 = .ok (.iconst 0, 1) := by decide +kernel
theorem dX12_signs_32 : decode cX12_signs 32 = .ok (.istore_n 2, 1) := by decide +kernel
theorem dX12_signs_33 : decode cX12_signs 33 = .ok (.iload_n 2, 1) := by decide +kernel
theorem dX12_signs_34 : decode cX12_signs 34 = .ok (.aload_n 0, 1) := by decide +kernel
theorem dX12_signs_35 : decode cX12_signs 35 = .ok (.getfield 191, 3) := by decide +kernel
theorem dX12_signs_38 : decode cX12_signs 38 = .ok (.if_icmp .ge 21, 3) := by decide +kernel
theorem dX12_signs_41 : decode cX12_signs 41 = .ok (.aload_n 0, 1) := by decide +kernel
theorem dX12_signs_42 : decode cX12_signs 42 = .ok (.getfield 14, 3) := by decide +kernel
theorem dX12_signs_45 : decode cX12_signs 45 = .ok (.iload_n 2, 1) := by decide +kernel
theorem dX12_signs_46 : decode cX12_signs 46 = .ok (.aload_n 0, 1) := by decide +kernel
theorem dX12_signs_47 : decode cX12_signs 47 = .ok (.getfield 85, 3) := by decide +kernel
theorem dX12_signs_50 : decode cX12_signs 50 = .ok (.iload_n 2, 1) := by decide +kernel
theorem dX12_signs_51 : decode cX12_signs 51 = .ok (.caload, 1) := by decide +kernel
theorem dX12_signs_52 : decode cX12_signs 52 = .ok (.castore, 1) := by decide +kernel
theorem dX12_signs_53 : decode cX12_signs 53 = .ok (.iinc 2 1, 3) := by decide +kernel
theorem dX12_signs_56 : decode cX12_signs 56 = .ok (.goto (-23), 3) := by decide +kernel
theorem dX12_signs_59 : decode cX12_signs 59 = .ok (.aload_n 0, 1) := by decide +kernel
theorem dX12_signs_60 : decode cX12_signs 60 = .ok (.aload_n 0, 1) := by decide +kernel
theorem dX12_signs_61 : decode cX12_signs 61 = .ok (.getfield 191, 3) := by decide +kernel
theorem dX12_signs_64 : decode cX12_signs 64 = .ok (.putfield 364, 3) := by decide +kernel
theorem dX12_signs_67 : decode cX12_signs 67 = .ok (.aload_n 0, 1) := by decide +kernel
theorem dX12_signs_68 : decode cX12_signs 68 = .ok (.getfield 364, 3) := by decide +kernel
theorem dX12_signs_71 : decode cX12_signs 71 = .ok (.ireturn, 1) := by decide +kernel
theorem dX12_out_0 : decode cX12_out 0 = .ok (.aload_n 0, 1) := by decide +kernel
theorem dX12_out_1 : decode cX12_out 1 = .ok (.iconst 0, 1) := by decide +kernel
theorem dX12_out_2 : decode cX12_out 2 = .ok (.putfield 99, 3) := by decide +kernel
theorem dX12_out_5 : decode cX12_out 5 = .ok (.iload_n 1, 1) := by decide +kernel
theorem dX12_out_6 : decode cX12_out 6 = .ok (.ifCond .lt 11, 3) := by decide +kernel
theorem dX12_out_9 : decode cX12_out 9 = .ok (.iload_n 1, 1) := by decide +kernel
theorem dX12_out_10 : decode cX12_out 10 = .ok (.aload_n 0, 1) := by decide +kernel
theorem dX12_out_11 : decode cX12_out 11 = .ok (.getfield 364, 3) := by decide +kernel
theorem dX12_out_14 : decode cX12_out 14 = .ok (.if_icmp .lt 7, 3) := by decide +kernel
theorem dX12_out_17 : decode cX12_out 17 = .ok (.iconst 0, 1) := by decide +kernel
theorem dX12_out_18 : decode cX12_out 18 = .ok (.goto 9, 3) := by decide +kernel
theorem dX12_out_21 : decode cX12_out 21 = .ok (.aload_n 0, 1) := by decide +kernel
theorem dX12_out_22 : decode cX12_out 22 = .ok (.getfield 14, 3) := by decide +kernel
theorem dX12_out_25 : decode cX12_out 25 = .ok (.iload_n 1, 1) := by decide +kernel
theorem dX12_out_26 : decode cX12_out 26 = .ok (.caload, 1) := by decide +kernel
theorem dX12_out_27 : decode cX12_out 27 = .ok (.ireturn, 1) := by decide +kernel
theorem dX12_isNode_0 : decode cX12_isNode 0 = .ok (.iload_n 1, 1) := by decide +kernel
theorem dX12_isNode_1 : decode cX12_isNode 1 = .ok (.ifCond .lt 20, 3) := by decide +kernel
theorem dX12_isNode_4 : decode cX12_isNode 4 = .ok (.iload_n 1, 1) := by decide +kernel
theorem dX12_isNode_5 : decode cX12_isNode 5 = .ok (.aload_n 0, 1) := by decide +kernel
theorem dX12_isNode_6 : decode cX12_isNode 6 = .ok (.getfield 17, 3) := by decide +kernel
theorem dX12_isNode_9 : decode cX12_isNode 9 = .ok (.aload_n 0, 1) := by decide +kernel
theorem dX12_isNode_10 : decode cX12_isNode 10 = .ok (.getfield 347, 3) := by decide +kernel
theorem dX12_isNode_13 : decode cX12_isNode 13 = .ok (.iaload, 1) := by decide +kernel
theorem dX12_isNode_14 : decode cX12_isNode 14 = .ok (.if_icmp .gt 7, 3) := by decide +kernel
theorem dX12_isNode_17 : decode cX12_isNode 17 = .ok (.iconst 1, 1) := by decide +kernel
theorem dX12_isNode_18 : decode cX12_isNode 18 = .ok (.goto 4, 3) := by decide +kernel
theorem dX12_isNode_21 : decode cX12_isNode 21 = .ok (.iconst 0, 1) := by decide +kernel
theorem dX12_isNode_22 : decode cX12_isNode 22 = .ok (.ireturn, 1) := by decide +kernel
theorem dX12_nodes_0 : decode cX12_nodes 0 = .ok (.aload_n 0, 1) := by decide +kernel
theorem dX12_nodes_1 : decode cX12_nodes 1 = .ok (.iconst 0, 1) := by decide +kernel
theorem dX12_nodes_2 : decode cX12_nodes 2 = .ok (.putfield 99, 3) := by decide +kernel
theorem dX12_nodes_5 : decode cX12_nodes 5 = .ok (.aload_n 0, 1) := by decide +kernel
theorem dX12_nodes_6 : decode cX12_nodes 6 = .ok (.getfield 17, 3) := by decide +kernel
theorem dX12_nodes_9 : decode cX12_nodes 9 = .ok (.aload_n 0, 1) := by decide +kernel
theorem dX12_nodes_10 : decode cX12_nodes 10 = .ok (.getfield 347, 3) := by decide +kernel
theorem dX12_nodes_13 : decode cX12_nodes 13 = .ok (.iaload, 1) := by decide +kernel
theorem dX12_nodes_14 : decode cX12_nodes 14 = .ok (.ireturn, 1) := by decide +kernel
theorem dX12_node_0 : decode cX12_node 0 = .ok (.aload_n 0, 1) := by decide +kernel
theorem dX12_node_1 : decode cX12_node 1 = .ok (.aload_n 0, 1) := by decide +kernel
theorem dX12_node_2 : decode cX12_node 2 = .ok (.iload_n 1, 1) := by decide +kernel
theorem dX12_node_3 : decode cX12_node 3 = .ok (.invokevirtual 389, 3) := by decide +kernel
theorem dX12_node_6 : decode cX12_node 6 = .ok (.ifCond .eq 12, 3) := by decide +kernel
theorem dX12_node_9 : decode cX12_node 9 = .ok (.iload_n 2, 1) := by decide +kernel
theorem dX12_node_10 : decode cX12_node 10 = .ok (.ifCond .lt 8, 3) := by decide +kernel
theorem dX12_node_13 : decode cX12_node 13 = .ok (.iload_n 2, 1) := by decide +kernel
theorem dX12_node_14 : decode cX12_node 14 = .ok (.iconst 5, 1) := by decide +kernel
theorem dX12_node_15 : decode cX12_node 15 = .ok (.if_icmp .le 7, 3) := by decide +kernel
theorem dX12_node_18 : decode cX12_node 18 = .ok (.iconst 1, 1) := by decide +kernel
theorem dX12_node_19 : decode cX12_node 19 = .ok (.goto 4, 3) := by decide +kernel
theorem dX12_node_22 : decode cX12_node 22 = .ok (.iconst 0, 1) := by decide +kernel
theorem dX12_node_23 : decode cX12_node 23 = .ok (.putfield 99, 3) := by decide +kernel
theorem dX12_node_26 : decode cX12_node 26 = .ok (.aload_n 0, 1) := by decide +kernel
theorem dX12_node_27 : decode cX12_node 27 = .ok (.getfield 99, 3) := by decide +kernel
theorem dX12_node_30 : decode cX12_node 30 = .ok (.ifCond .le 5, 3) := by decide +kernel
theorem dX12_node_33 : decode cX12_node 33 = .ok (.iconst 0, 1) := by decide +kernel
theorem dX12_node_34 : decode cX12_node 34 = .ok (.ireturn, 1) := by decide +kernel
theorem dX12_node_35 : decode cX12_node 35 = .ok (.sipush 301, 3) := by decide +kernel
theorem dX12_node_38 : decode cX12_node 38 = .ok (.aload_n 0, 1) := by decide +kernel
theorem dX12_node_39 : decode cX12_node 39 = .ok (.getfield 347, 3) := by decide +kernel
theorem dX12_node_42 : decode cX12_node 42 = .ok (.imul, 1) := by decide +kernel
theorem dX12_node_43 : decode cX12_node 43 = .ok (.iload_n 1, 1) := by decide +kernel
theorem dX12_node_44 : decode cX12_node 44 = .ok (.iadd, 1) := by decide +kernel
theorem dX12_node_45 : decode cX12_node 45 = .ok (.istore_n 3, 1) := by decide +kernel
theorem dX12_node_46 : decode cX12_node 46 = .ok (.iload_n 2, 1) := by decide +kernel
theorem dX12_node_47 : decode cX12_node 47 = .ok (.tableswitch 68 0 4 #[33, 40, 47, 54, 61], 33) := by decide +kernel
theorem dX12_node_80 : decode cX12_node 80 = .ok (.aload_n 0, 1) := by decide +kernel
theorem dX12_node_81 : decode cX12_node 81 = .ok (.getfield 21, 3) := by decide +kernel
theorem dX12_node_84 : decode cX12_node 84 = .ok (.iload_n 3, 1) := by decide +kernel
theorem dX12_node_85 : decode cX12_node 85 = .ok (.iaload, 1) := by decide +kernel
theorem dX12_node_86 : decode cX12_node 86 = .ok (.ireturn, 1) := by decide +kernel
theorem dX12_node_87 : decode cX12_node 87 = .ok (.aload_n 0, 1) := by decide +kernel
theorem dX12_node_88 : decode cX12_node 88 = .ok (.getfield 24, 3) := by decide +kernel
theorem dX12_node_91 : decode cX12_node 91 = .ok (.iload_n 3, 1) := by decide +kernel
theorem dX12_node_92 : decode cX12_node 92 = .ok (.iaload, 1) := by decide +kernel
theorem dX12_node_93 : decode cX12_node 93 = .ok (.ireturn, 1) := by decide +kernel
theorem dX12_node_94 : decode cX12_node 94 = .ok (.aload_n 0, 1) := by decide +kernel
theorem dX12_node_95 : decode cX12_node 95 = .ok (.getfield 27, 3) := by decide +kernel
theorem dX12_node_98 : decode cX12_node 98 = .ok (.iload_n 3, 1) := by decide +kernel
theorem dX12_node_99 : decode cX12_node 99 = .ok (.iaload, 1) := by decide +kernel
theorem dX12_node_100 : decode cX12_node 100 = .ok (.ireturn, 1) := by decide +kernel
theorem dX12_node_101 : decode cX12_node 101 = .ok (.aload_n 0, 1) := by decide +kernel
theorem dX12_node_102 : decode cX12_node 102 = .ok (.getfield 30, 3) := by decide +kernel
theorem dX12_node_105 : decode cX12_node 105 = .ok (.iload_n 3, 1) := by decide +kernel
theorem dX12_node_106 : decode cX12_node 106 = .ok (.iaload, 1) := by decide +kernel
theorem dX12_node_107 : decode cX12_node 107 = .ok (.ireturn, 1) := by decide +kernel
theorem dX12_node_108 : decode cX12_node 108 = .ok (.aload_n 0, 1) := by decide +kernel
theorem dX12_node_109 : decode cX12_node 109 = .ok (.getfield 33, 3) := by decide +kernel
theorem dX12_node_112 : decode cX12_node 112 = .ok (.iload_n 3, 1) := by decide +kernel
theorem dX12_node_113 : decode cX12_node 113 = .ok (.iaload, 1) := by decide +kernel
theorem dX12_node_114 : decode cX12_node 114 = .ok (.ireturn, 1) := by decide +kernel
theorem dX12_node_115 : decode cX12_node 115 = .ok (.aload_n 0, 1) := by decide +kernel
theorem dX12_node_116 : decode cX12_node 116 = .ok (.getfield 39, 3) := by decide +kernel
theorem dX12_node_119 : decode cX12_node 119 = .ok (.iload_n 3, 1) := by decide +kernel
theorem dX12_node_120 : decode cX12_node 120 = .ok (.iaload, 1) := by decide +kernel
theorem dX12_node_121 : decode cX12_node 121 = .ok (.ireturn, 1) := by decide +kernel
theorem dX12_mark_0 : decode cX12_mark 0 = .ok (.aload_n 0, 1) := by decide +kernel
theorem dX12_mark_1 : decode cX12_mark 1 = .ok (.aload_n 0, 1) := by decide +kernel
theorem dX12_mark_2 : decode cX12_mark 2 = .ok (.iload_n 1, 1) := by decide +kernel
theorem dX12_mark_3 : decode cX12_mark 3 = .ok (.invokevirtual 389, 3) := by decide +kernel
theorem dX12_mark_6 : decode cX12_mark 6 = .ok (.ifCond .eq 26, 3) := by decide +kernel
theorem dX12_mark_9 : decode cX12_mark 9 = .ok (.iload_n 2, 1) := by decide +kernel
theorem dX12_mark_10 : decode cX12_mark 10 = .ok (.ifCond .lt 22, 3) := by decide +kernel
theorem dX12_mark_13 : decode cX12_mark 13 = .ok (.iload_n 2, 1) := by decide +kernel
theorem dX12_mark_14 : decode cX12_mark 14 = .ok (.aload_n 0, 1) := by decide +kernel
theorem dX12_mark_15 : decode cX12_mark 15 = .ok (.getfield 33, 3) := by decide +kernel
theorem dX12_mark_18 : decode cX12_mark 18 = .ok (.sipush 301, 3) := by decide +kernel
theorem dX12_mark_21 : decode cX12_mark 21 = .ok (.aload_n 0, 1) := by decide +kernel
theorem dX12_mark_22 : decode cX12_mark 22 = .ok (.getfield 347, 3) := by decide +kernel
theorem dX12_mark_25 : decode cX12_mark 25 = .ok (.imul, 1) := by decide +kernel
theorem dX12_mark_26 : decode cX12_mark 26 = .ok (.iload_n 1, 1) := by decide +kernel
theorem dX12_mark_27 : decode cX12_mark 27 = .ok (.iadd, 1) := by decide +kernel
theorem dX12_mark_28 : decode cX12_mark 28 = .ok (.iaload, 1) := by decide +kernel
theorem dX12_mark_29 : decode cX12_mark 29 = .ok (.if_icmp .lt 7, 3) := by decide +kernel
theorem dX12_mark_32 : decode cX12_mark 32 = .ok (.iconst 1, 1) := by decide +kernel
theorem dX12_mark_33 : decode cX12_mark 33 = .ok (.goto 4, 3) := by decide +kernel
theorem dX12_mark_36 : decode cX12_mark 36 = .ok (.iconst 0, 1) := by decide +kernel
theorem dX12_mark_37 : decode cX12_mark 37 = .ok (.putfield 99, 3) := by decide +kernel
theorem dX12_mark_40 : decode cX12_mark 40 = .ok (.aload_n 0, 1) := by decide +kernel
theorem dX12_mark_41 : decode cX12_mark 41 = .ok (.getfield 99, 3) := by decide +kernel
theorem dX12_mark_44 : decode cX12_mark 44 = .ok (.ifCond .le 7, 3) := by decide +kernel
theorem dX12_mark_47 : decode cX12_mark 47 = .ok (.iconst 0, 1) := by decide +kernel
theorem dX12_mark_48 : decode cX12_mark 48 = .ok (.goto 22, 3) := by decide +kernel
theorem dX12_mark_51 : decode cX12_mark 51 = .ok (.aload_n 0, 1) := by decide +kernel
theorem dX12_mark_52 : decode cX12_mark 52 = .ok (.getfield 36, 3) := by decide +kernel
theorem dX12_mark_55 : decode cX12_mark 55 = .ok (.iconst 4, 1) := by decide +kernel
theorem dX12_mark_56 : decode cX12_mark 56 = .ok (.sipush 301, 3) := by decide +kernel
theorem dX12_mark_59 : decode cX12_mark 59 = .ok (.aload_n 0, 1) := by decide +kernel
theorem dX12_mark_60 : decode cX12_mark 60 = .ok (.getfield 347, 3) := by decide +kernel
theorem dX12_mark_63 : decode cX12_mark 63 = .ok (.imul, 1) := by decide +kernel
theorem dX12_mark_64 : decode cX12_mark 64 = .ok (.iload_n 1, 1) := by decide +kernel
theorem dX12_mark_65 : decode cX12_mark 65 = .ok (.iadd, 1) := by decide +kernel
theorem dX12_mark_66 : decode cX12_mark 66 = .ok (.imul, 1) := by decide +kernel
theorem dX12_mark_67 : decode cX12_mark 67 = .ok (.iload_n 2, 1) := by decide +kernel
theorem dX12_mark_68 : decode cX12_mark 68 = .ok (.iadd, 1) := by decide +kernel
theorem dX12_mark_69 : decode cX12_mark 69 = .ok (.iaload, 1) := by decide +kernel
theorem dX12_mark_70 : decode cX12_mark 70 = .ok (.ireturn, 1) := by decide +kernel
theorem dX12_remark_0 : decode cX12_remark 0 = .ok (.aload_n 0, 1) := by decide +kernel
theorem dX12_remark_1 : decode cX12_remark 1 = .ok (.aload_n 0, 1) := by decide +kernel
theorem dX12_remark_2 : decode cX12_remark 2 = .ok (.iload_n 1, 1) := by decide +kernel
theorem dX12_remark_3 : decode cX12_remark 3 = .ok (.invokevirtual 389, 3) := by decide +kernel
theorem dX12_remark_6 : decode cX12_remark 6 = .ok (.ifCond .eq 26, 3) := by decide +kernel
theorem dX12_remark_9 : decode cX12_remark 9 = .ok (.iload_n 2, 1) := by decide +kernel
theorem dX12_remark_10 : decode cX12_remark 10 = .ok (.ifCond .lt 22, 3) := by decide +kernel
theorem dX12_remark_13 : decode cX12_remark 13 = .ok (.iload_n 2, 1) := by decide +kernel
theorem dX12_remark_14 : decode cX12_remark 14 = .ok (.aload_n 0, 1) := by decide +kernel
theorem dX12_remark_15 : decode cX12_remark 15 = .ok (.getfield 39, 3) := by decide +kernel
theorem dX12_remark_18 : decode cX12_remark 18 = .ok (.sipush 301, 3) := by decide +kernel
theorem dX12_remark_21 : decode cX12_remark 21 = .ok (.aload_n 0, 1) := by decide +kernel
theorem dX12_remark_22 : decode cX12_remark 22 = .ok (.getfield 347, 3) := by decide +kernel
theorem dX12_remark_25 : decode cX12_remark 25 = .ok (.imul, 1) := by decide +kernel
theorem dX12_remark_26 : decode cX12_remark 26 = .ok (.iload_n 1, 1) := by decide +kernel
theorem dX12_remark_27 : decode cX12_remark 27 = .ok (.iadd, 1) := by decide +kernel
theorem dX12_remark_28 : decode cX12_remark 28 = .ok (.iaload, 1) := by decide +kernel
theorem dX12_remark_29 : decode cX12_remark 29 = .ok (.if_icmp .lt 7, 3) := by decide +kernel
theorem dX12_remark_32 : decode cX12_remark 32 = .ok (.iconst 1, 1) := by decide +kernel
theorem dX12_remark_33 : decode cX12_remark 33 = .ok (.goto 4, 3) := by decide +kernel
theorem dX12_remark_36 : decode cX12_remark 36 = .ok (.iconst 0, 1) := by decide +kernel
theorem dX12_remark_37 : decode cX12_remark 37 = .ok (.putfield 99, 3) := by decide +kernel
theorem dX12_remark_40 : decode cX12_remark 40 = .ok (.aload_n 0, 1) := by decide +kernel
theorem dX12_remark_41 : decode cX12_remark 41 = .ok (.getfield 99, 3) := by decide +kernel
theorem dX12_remark_44 : decode cX12_remark 44 = .ok (.ifCond .le 7, 3) := by decide +kernel
theorem dX12_remark_47 : decode cX12_remark 47 = .ok (.iconst 0, 1) := by decide +kernel
theorem dX12_remark_48 : decode cX12_remark 48 = .ok (.goto 24, 3) := by decide +kernel
theorem dX12_remark_51 : decode cX12_remark 51 = .ok (.aload_n 0, 1) := by decide +kernel
theorem dX12_remark_52 : decode cX12_remark 52 = .ok (.getfield 43, 3) := by decide +kernel
theorem dX12_remark_55 : decode cX12_remark 55 = .ok (.sipush 200, 3) := by decide +kernel
theorem dX12_remark_58 : decode cX12_remark 58 = .ok (.sipush 301, 3) := by decide +kernel
theorem dX12_remark_61 : decode cX12_remark 61 = .ok (.aload_n 0, 1) := by decide +kernel
theorem dX12_remark_62 : decode cX12_remark 62 = .ok (.getfield 347, 3) := by decide +kernel
theorem dX12_remark_65 : decode cX12_remark 65 = .ok (.imul, 1) := by decide +kernel
theorem dX12_remark_66 : decode cX12_remark 66 = .ok (.iload_n 1, 1) := by decide +kernel
theorem dX12_remark_67 : decode cX12_remark 67 = .ok (.iadd, 1) := by decide +kernel
theorem dX12_remark_68 : decode cX12_remark 68 = .ok (.imul, 1) := by decide +kernel
theorem dX12_remark_69 : decode cX12_remark 69 = .ok (.iload_n 2, 1) := by decide +kernel
theorem dX12_remark_70 : decode cX12_remark 70 = .ok (.iadd, 1) := by decide +kernel
theorem dX12_remark_71 : decode cX12_remark 71 = .ok (.caload, 1) := by decide +kernel
theorem dX12_remark_72 : decode cX12_remark 72 = .ok (.ireturn, 1) := by decide +kernel
theorem dX12_here_0 : decode cX12_here 0 = .ok (.aload_n 0, 1) := by decide +kernel
theorem dX12_here_1 : decode cX12_here 1 = .ok (.iconst 0, 1) := by decide +kernel
theorem dX12_here_2 : decode cX12_here 2 = .ok (.putfield 99, 3) := by decide +kernel
theorem dX12_here_5 : decode cX12_here 5 = .ok (.aload_n 0, 1) := by decide +kernel
theorem dX12_here_6 : decode cX12_here 6 = .ok (.getfield 353, 3) := by decide +kernel
theorem dX12_here_9 : decode cX12_here 9 = .ok (.ireturn, 1) := by decide +kernel
theorem dX12_go_0 : decode cX12_go 0 = .ok (.aload_n 0, 1) := by decide +kernel
theorem dX12_go_1 : decode cX12_go 1 = .ok (.aload_n 0, 1) := by decide +kernel
theorem dX12_go_2 : decode cX12_go 2 = .ok (.iload_n 1, 1) := by decide +kernel
theorem dX12_go_3 : decode cX12_go 3 = .ok (.invokevirtual 389, 3) := by decide +kernel
theorem dX12_go_6 : decode cX12_go 6 = .ok (.ifCond .eq 7, 3) := by decide +kernel
theorem dX12_go_9 : decode cX12_go 9 = .ok (.iconst 0, 1) := by decide +kernel
theorem dX12_go_10 : decode cX12_go 10 = .ok (.goto 4, 3) := by decide +kernel
theorem dX12_go_13 : decode cX12_go 13 = .ok (.iconst 1, 1) := by decide +kernel
theorem dX12_go_14 : decode cX12_go 14 = .ok (.putfield 99, 3) := by decide +kernel
theorem dX12_go_17 : decode cX12_go 17 = .ok (.aload_n 0, 1) := by decide +kernel
theorem dX12_go_18 : decode cX12_go 18 = .ok (.getfield 99, 3) := by decide +kernel
theorem dX12_go_21 : decode cX12_go 21 = .ok (.ifCond .ne 20, 3) := by decide +kernel
theorem dX12_go_24 : decode cX12_go 24 = .ok (.aload_n 0, 1) := by decide +kernel
theorem dX12_go_25 : decode cX12_go 25 = .ok (.iload_n 1, 1) := by decide +kernel
theorem dX12_go_26 : decode cX12_go 26 = .ok (.putfield 353, 3) := by decide +kernel
theorem dX12_go_29 : decode cX12_go 29 = .ok (.aload_n 0, 1) := by decide +kernel
theorem dX12_go_30 : decode cX12_go 30 = .ok (.aload_n 0, 1) := by decide +kernel
theorem dX12_go_31 : decode cX12_go 31 = .ok (.getfield 347, 3) := by decide +kernel
theorem dX12_go_34 : decode cX12_go 34 = .ok (.aload_n 0, 1) := by decide +kernel
theorem dX12_go_35 : decode cX12_go 35 = .ok (.getfield 353, 3) := by decide +kernel
theorem dX12_go_38 : decode cX12_go 38 = .ok (.invokevirtual 95, 3) := by decide +kernel
theorem dX12_go_41 : decode cX12_go 41 = .ok (.return_, 1) := by decide +kernel
theorem dX12_man_0 : decode cX12_man 0 = .ok (.aload_n 0, 1) := by decide +kernel
theorem dX12_man_1 : decode cX12_man 1 = .ok (.iload_n 1, 1) := by decide +kernel
theorem dX12_man_2 : decode cX12_man 2 = .ok (.ifCond .lt 9, 3) := by decide +kernel
theorem dX12_man_5 : decode cX12_man 5 = .ok (.iload_n 1, 1) := by decide +kernel
theorem dX12_man_6 : decode cX12_man 6 = .ok (.bipush 63, 2) := by decide +kernel
theorem dX12_man_8 : decode cX12_man 8 = .ok (.if_icmp .le 7, 3) := by decide +kernel
theorem dX12_man_11 : decode cX12_man 11 = .ok (.iconst 1, 1) := by decide +kernel
theorem dX12_man_12 : decode cX12_man 12 = .ok (.goto 4, 3) := by decide +kernel
theorem dX12_man_15 : decode cX12_man 15 = .ok (.iconst 0, 1) := by decide +kernel
theorem dX12_man_16 : decode cX12_man 16 = .ok (.putfield 99, 3) := by decide +kernel
theorem dX12_man_19 : decode cX12_man 19 = .ok (.aload_n 0, 1) := by decide +kernel
theorem dX12_man_20 : decode cX12_man 20 = .ok (.getfield 99, 3) := by decide +kernel
theorem dX12_man_23 : decode cX12_man 23 = .ok (.ifCond .le 7, 3) := by decide +kernel
theorem dX12_man_26 : decode cX12_man 26 = .ok (.iconst 0, 1) := by decide +kernel
theorem dX12_man_27 : decode cX12_man 27 = .ok (.goto 9, 3) := by decide +kernel
theorem dX12_man_30 : decode cX12_man 30 = .ok (.aload_n 0, 1) := by decide +kernel
theorem dX12_man_31 : decode cX12_man 31 = .ok (.getfield 70, 3) := by decide +kernel
theorem dX12_man_34 : decode cX12_man 34 = .ok (.iload_n 1, 1) := by decide +kernel
theorem dX12_man_35 : decode cX12_man 35 = .ok (.iaload, 1) := by decide +kernel
theorem dX12_man_36 : decode cX12_man 36 = .ok (.ireturn, 1) := by decide +kernel
theorem dX12_move_0 : decode cX12_move 0 = .ok (.aload_n 0, 1) := by decide +kernel
theorem dX12_move_1 : decode cX12_move 1 = .ok (.iconst 0, 1) := by decide +kernel
theorem dX12_move_2 : decode cX12_move 2 = .ok (.putfield 99, 3) := by decide +kernel
theorem dX12_move_5 : decode cX12_move 5 = .ok (.iload_n 1, 1) := by decide +kernel
theorem dX12_move_6 : decode cX12_move 6 = .ok (.ifCond .lt 11, 3) := by decide +kernel
theorem dX12_move_9 : decode cX12_move 9 = .ok (.iload_n 1, 1) := by decide +kernel
theorem dX12_move_10 : decode cX12_move 10 = .ok (.aload_n 0, 1) := by decide +kernel
theorem dX12_move_11 : decode cX12_move 11 = .ok (.getfield 170, 3) := by decide +kernel
theorem dX12_move_14 : decode cX12_move 14 = .ok (.if_icmp .lt 7, 3) := by decide +kernel
theorem dX12_move_17 : decode cX12_move 17 = .ok (.iconst (-1), 1) := by decide +kernel
theorem dX12_move_18 : decode cX12_move 18 = .ok (.goto 9, 3) := by decide +kernel
theorem dX12_move_21 : decode cX12_move 21 = .ok (.aload_n 0, 1) := by decide +kernel
theorem dX12_move_22 : decode cX12_move 22 = .ok (.getfield 79, 3) := by decide +kernel
theorem dX12_move_25 : decode cX12_move 25 = .ok (.iload_n 1, 1) := by decide +kernel
theorem dX12_move_26 : decode cX12_move 26 = .ok (.iaload, 1) := by decide +kernel
theorem dX12_move_27 : decode cX12_move 27 = .ok (.ireturn, 1) := by decide +kernel
theorem dX12_add_0 : decode cX12_add 0 = .ok (.aload_n 0, 1) := by decide +kernel
theorem dX12_add_1 : decode cX12_add 1 = .ok (.aload_n 0, 1) := by decide +kernel
theorem dX12_add_2 : decode cX12_add 2 = .ok (.iload_n 1, 1) := by decide +kernel
theorem dX12_add_3 : decode cX12_add 3 = .ok (.invokevirtual 386, 3) := by decide +kernel
theorem dX12_add_6 : decode cX12_add 6 = .ok (.ifCond .eq 7, 3) := by decide +kernel
theorem dX12_add_9 : decode cX12_add 9 = .ok (.iconst 0, 1) := by decide +kernel
theorem dX12_add_10 : decode cX12_add 10 = .ok (.goto 4, 3) := by decide +kernel
theorem dX12_add_13 : decode cX12_add 13 = .ok (.iconst 1, 1) := by decide +kernel
theorem dX12_add_14 : decode cX12_add 14 = .ok (.putfield 99, 3) := by decide +kernel
theorem dX12_add_17 : decode cX12_add 17 = .ok (.aload_n 0, 1) := by decide +kernel
theorem dX12_add_18 : decode cX12_add 18 = .ok (.getfield 99, 3) := by decide +kernel
theorem dX12_add_21 : decode cX12_add 21 = .ok (.ifCond .le 5, 3) := by decide +kernel
theorem dX12_add_24 : decode cX12_add 24 = .ok (.iconst 0, 1) := by decide +kernel
theorem dX12_add_25 : decode cX12_add 25 = .ok (.ireturn, 1) := by decide +kernel
theorem dX12_add_26 : decode cX12_add 26 = .ok (.aload_n 0, 1) := by decide +kernel
theorem dX12_add_27 : decode cX12_add 27 = .ok (.aload_n 0, 1) := by decide +kernel
theorem dX12_add_28 : decode cX12_add 28 = .ok (.getfield 347, 3) := by decide +kernel
theorem dX12_add_31 : decode cX12_add 31 = .ok (.aload_n 0, 1) := by decide +kernel
theorem dX12_add_32 : decode cX12_add 32 = .ok (.getfield 353, 3) := by decide +kernel
theorem dX12_add_35 : decode cX12_add 35 = .ok (.iload_n 1, 1) := by decide +kernel
theorem dX12_add_36 : decode cX12_add 36 = .ok (.invokevirtual 310, 3) := by decide +kernel
theorem dX12_add_39 : decode cX12_add 39 = .ok (.istore_n 2, 1) := by decide +kernel
theorem dX12_add_40 : decode cX12_add 40 = .ok (.iload_n 2, 1) := by decide +kernel
theorem dX12_add_41 : decode cX12_add 41 = .ok (.ifCond .ge 96, 3) := by decide +kernel
theorem dX12_add_44 : decode cX12_add 44 = .ok (.aload_n 0, 1) := by decide +kernel
theorem dX12_add_45 : decode cX12_add 45 = .ok (.aload_n 0, 1) := by decide +kernel
theorem dX12_add_46 : decode cX12_add 46 = .ok (.getfield 347, 3) := by decide +kernel
theorem dX12_add_49 : decode cX12_add 49 = .ok (.aload_n 0, 1) := by decide +kernel
theorem dX12_add_50 : decode cX12_add 50 = .ok (.getfield 353, 3) := by decide +kernel
theorem dX12_add_53 : decode cX12_add 53 = .ok (.invokevirtual 392, 3) := by decide +kernel
theorem dX12_add_56 : decode cX12_add 56 = .ok (.aload_n 0, 1) := by decide +kernel
theorem dX12_add_57 : decode cX12_add 57 = .ok (.getfield 27, 3) := by decide +kernel
theorem dX12_add_60 : decode cX12_add 60 = .ok (.sipush 301, 3) := by decide +kernel
theorem dX12_add_63 : decode cX12_add 63 = .ok (.aload_n 0, 1) := by decide +kernel
theorem dX12_add_64 : decode cX12_add 64 = .ok (.getfield 347, 3) := by decide +kernel
theorem dX12_add_67 : decode cX12_add 67 = .ok (.imul, 1) := by decide +kernel
theorem dX12_add_68 : decode cX12_add 68 = .ok (.aload_n 0, 1) := by decide +kernel
theorem dX12_add_69 : decode cX12_add 69 = .ok (.getfield 353, 3) := by decide +kernel
theorem dX12_add_72 : decode cX12_add 72 = .ok (.iadd, 1) := by decide +kernel
theorem dX12_add_73 : decode cX12_add 73 = .ok (.iaload, 1) := by decide +kernel
theorem dX12_add_74 : decode cX12_add 74 = .ok (.ifCond .lt 7, 3) := by decide +kernel
theorem dX12_add_77 : decode cX12_add 77 = .ok (.iconst 1, 1) := by decide +kernel
theorem dX12_add_78 : decode cX12_add 78 = .ok (.goto 4, 3) := by decide +kernel
theorem dX12_add_81 : decode cX12_add 81 = .ok (.iconst 0, 1) := by decide +kernel
theorem dX12_add_82 : decode cX12_add 82 = .ok (.iadd, 1) := by decide +kernel
theorem dX12_add_83 : decode cX12_add 83 = .ok (.istore_n 3, 1) := by decide +kernel
theorem dX12_add_84 : decode cX12_add 84 = .ok (.aload_n 0, 1) := by decide +kernel
theorem dX12_add_85 : decode cX12_add 85 = .ok (.aload_n 0, 1) := by decide +kernel
theorem dX12_add_86 : decode cX12_add 86 = .ok (.getfield 17, 3) := by decide +kernel
theorem dX12_add_89 : decode cX12_add 89 = .ok (.aload_n 0, 1) := by decide +kernel
theorem dX12_add_90 : decode cX12_add 90 = .ok (.getfield 347, 3) := by decide +kernel
theorem dX12_add_93 : decode cX12_add 93 = .ok (.iaload, 1) := by decide +kernel
theorem dX12_add_94 : decode cX12_add 94 = .ok (.sipush 300, 3) := by decide +kernel
theorem dX12_add_97 : decode cX12_add 97 = .ok (.if_icmp .eq 9, 3) := by decide +kernel
theorem dX12_add_100 : decode cX12_add 100 = .ok (.iload_n 3, 1) := by decide +kernel
theorem dX12_add_101 : decode cX12_add 101 = .ok (.bipush 6, 2) := by decide +kernel
theorem dX12_add_103 : decode cX12_add 103 = .ok (.if_icmp .le 7, 3) := by decide +kernel
theorem dX12_add_106 : decode cX12_add 106 = .ok (.iconst 2, 1) := by decide +kernel
theorem dX12_add_107 : decode cX12_add 107 = .ok (.goto 4, 3) := by decide +kernel
theorem dX12_add_110 : decode cX12_add 110 = .ok (.iconst 0, 1) := by decide +kernel
theorem dX12_add_111 : decode cX12_add 111 = .ok (.putfield 99, 3) := by decide +kernel
theorem dX12_add_114 : decode cX12_add 114 = .ok (.aload_n 0, 1) := by decide +kernel
theorem dX12_add_115 : decode cX12_add 115 = .ok (.getfield 99, 3) := by decide +kernel
theorem dX12_add_118 : decode cX12_add 118 = .ok (.ifCond .le 5, 3) := by decide +kernel
theorem dX12_add_121 : decode cX12_add 121 = .ok (.iconst 0, 1) := by decide +kernel
theorem dX12_add_122 : decode cX12_add 122 = .ok (.ireturn, 1) := by decide +kernel
theorem dX12_add_123 : decode cX12_add 123 = .ok (.aload_n 0, 1) := by decide +kernel
theorem dX12_add_124 : decode cX12_add 124 = .ok (.aload_n 0, 1) := by decide +kernel
theorem dX12_add_125 : decode cX12_add 125 = .ok (.getfield 347, 3) := by decide +kernel
theorem dX12_add_128 : decode cX12_add 128 = .ok (.aload_n 0, 1) := by decide +kernel
theorem dX12_add_129 : decode cX12_add 129 = .ok (.getfield 353, 3) := by decide +kernel
theorem dX12_add_132 : decode cX12_add 132 = .ok (.iload_n 1, 1) := by decide +kernel
theorem dX12_add_133 : decode cX12_add 133 = .ok (.invokevirtual 313, 3) := by decide +kernel
theorem dX12_add_136 : decode cX12_add 136 = .ok (.istore_n 2, 1) := by decide +kernel
theorem dX12_add_137 : decode cX12_add 137 = .ok (.aload_n 0, 1) := by decide +kernel
theorem dX12_add_138 : decode cX12_add 138 = .ok (.iload_n 2, 1) := by decide +kernel
theorem dX12_add_139 : decode cX12_add 139 = .ok (.putfield 353, 3) := by decide +kernel
theorem dX12_add_142 : decode cX12_add 142 = .ok (.aload_n 0, 1) := by decide +kernel
theorem dX12_add_143 : decode cX12_add 143 = .ok (.aload_n 0, 1) := by decide +kernel
theorem dX12_add_144 : decode cX12_add 144 = .ok (.getfield 347, 3) := by decide +kernel
theorem dX12_add_147 : decode cX12_add 147 = .ok (.aload_n 0, 1) := by decide +kernel
theorem dX12_add_148 : decode cX12_add 148 = .ok (.getfield 353, 3) := by decide +kernel
theorem dX12_add_151 : decode cX12_add 151 = .ok (.invokevirtual 95, 3) := by decide +kernel
theorem dX12_add_154 : decode cX12_add 154 = .ok (.iload_n 2, 1) := by decide +kernel
theorem dX12_add_155 : decode cX12_add 155 = .ok (.ireturn, 1) := by decide +kernel
theorem dX12_addMark_0 : decode cX12_addMark 0 = .ok (.aload_n 0, 1) := by decide +kernel
theorem dX12_addMark_1 : decode cX12_addMark 1 = .ok (.iload_n 1, 1) := by decide +kernel
theorem dX12_addMark_2 : decode cX12_addMark 2 = .ok (.ifCond .lt 10, 3) := by decide +kernel
theorem dX12_addMark_5 : decode cX12_addMark 5 = .ok (.iload_n 1, 1) := by decide +kernel
theorem dX12_addMark_6 : decode cX12_addMark 6 = .ok (.sipush 255, 3) := by decide +kernel
theorem dX12_addMark_9 : decode cX12_addMark 9 = .ok (.if_icmp .le 7, 3) := by decide +kernel
theorem dX12_addMark_12 : decode cX12_addMark 12 = .ok (.iconst 1, 1) := by decide +kernel
theorem dX12_addMark_13 : decode cX12_addMark 13 = .ok (.goto 37, 3) := by decide +kernel
theorem dX12_addMark_16 : decode cX12_addMark 16 = .ok (.aload_n 0, 1) := by decide +kernel
theorem dX12_addMark_17 : decode cX12_addMark 17 = .ok (.getfield 353, 3) := by decide +kernel
theorem dX12_addMark_20 : decode cX12_addMark 20 = .ok (.ifCond .eq 25, 3) := by decide +kernel
theorem dX12_addMark_23 : decode cX12_addMark 23 = .ok (.aload_n 0, 1) := by decide +kernel
theorem dX12_addMark_24 : decode cX12_addMark 24 = .ok (.getfield 33, 3) := by decide +kernel
theorem dX12_addMark_27 : decode cX12_addMark 27 = .ok (.sipush 301, 3) := by decide +kernel
theorem dX12_addMark_30 : decode cX12_addMark 30 = .ok (.aload_n 0, 1) := by decide +kernel
theorem dX12_addMark_31 : decode cX12_addMark 31 = .ok (.getfield 347, 3) := by decide +kernel
theorem dX12_addMark_34 : decode cX12_addMark 34 = .ok (.imul, 1) := by decide +kernel
theorem dX12_addMark_35 : decode cX12_addMark 35 = .ok (.aload_n 0, 1) := by decide +kernel
theorem dX12_addMark_36 : decode cX12_addMark 36 = .ok (.getfield 353, 3) := by decide +kernel
theorem dX12_addMark_39 : decode cX12_addMark 39 = .ok (.iadd, 1) := by decide +kernel
theorem dX12_addMark_40 : decode cX12_addMark 40 = .ok (.iaload, 1) := by decide +kernel
theorem dX12_addMark_41 : decode cX12_addMark 41 = .ok (.iconst 4, 1) := by decide +kernel
theorem dX12_addMark_42 : decode cX12_addMark 42 = .ok (.if_icmp .ne 7, 3) := by decide +kernel
theorem dX12_addMark_45 : decode cX12_addMark 45 = .ok (.iconst 2, 1) := by decide +kernel
theorem dX12_addMark_46 : decode cX12_addMark 46 = .ok (.goto 4, 3) := by decide +kernel
theorem dX12_addMark_49 : decode cX12_addMark 49 = .ok (.iconst 0, 1) := by decide +kernel
theorem dX12_addMark_50 : decode cX12_addMark 50 = .ok (.putfield 99, 3) := by decide +kernel
theorem dX12_addMark_53 : decode cX12_addMark 53 = .ok (.aload_n 0, 1) := by decide +kernel
theorem dX12_addMark_54 : decode cX12_addMark 54 = .ok (.getfield 99, 3) := by decide +kernel
theorem dX12_addMark_57 : decode cX12_addMark 57 = .ok (.ifCond .le 5, 3) := by decide +kernel
theorem dX12_addMark_60 : decode cX12_addMark 60 = .ok (.iconst 0, 1) := by decide +kernel
theorem dX12_addMark_61 : decode cX12_addMark 61 = .ok (.ireturn, 1) := by decide +kernel
theorem dX12_addMark_62 : decode cX12_addMark 62 = .ok (.aload_n 0, 1) := by decide +kernel
theorem dX12_addMark_63 : decode cX12_addMark 63 = .ok (.aload_n 0, 1) := by decide +kernel
theorem dX12_addMark_64 : decode cX12_addMark 64 = .ok (.getfield 347, 3) := by decide +kernel
theorem dX12_addMark_67 : decode cX12_addMark 67 = .ok (.aload_n 0, 1) := by decide +kernel
theorem dX12_addMark_68 : decode cX12_addMark 68 = .ok (.getfield 353, 3) := by decide +kernel
theorem dX12_addMark_71 : decode cX12_addMark 71 = .ok (.iload_n 1, 1) := by decide +kernel
theorem dX12_addMark_72 : decode cX12_addMark 72 = .ok (.invokevirtual 303, 3) := by decide +kernel
theorem dX12_addMark_75 : decode cX12_addMark 75 = .ok (.aload_n 0, 1) := by decide +kernel
theorem dX12_addMark_76 : decode cX12_addMark 76 = .ok (.getfield 33, 3) := by decide +kernel
theorem dX12_addMark_79 : decode cX12_addMark 79 = .ok (.sipush 301, 3) := by decide +kernel
theorem dX12_addMark_82 : decode cX12_addMark 82 = .ok (.aload_n 0, 1) := by decide +kernel
theorem dX12_addMark_83 : decode cX12_addMark 83 = .ok (.getfield 347, 3) := by decide +kernel
theorem dX12_addMark_86 : decode cX12_addMark 86 = .ok (.imul, 1) := by decide +kernel
theorem dX12_addMark_87 : decode cX12_addMark 87 = .ok (.aload_n 0, 1) := by decide +kernel
theorem dX12_addMark_88 : decode cX12_addMark 88 = .ok (.getfield 353, 3) := by decide +kernel
theorem dX12_addMark_91 : decode cX12_addMark 91 = .ok (.iadd, 1) := by decide +kernel
theorem dX12_addMark_92 : decode cX12_addMark 92 = .ok (.iaload, 1) := by decide +kernel
theorem dX12_addMark_93 : decode cX12_addMark 93 = .ok (.ireturn, 1) := by decide +kernel
theorem dX12_say_0 : decode cX12_say 0 = .ok (.aload_n 0, 1) := by decide +kernel
theorem dX12_say_1 : decode cX12_say 1 = .ok (.getfield 270, 3) := by decide +kernel
theorem dX12_say_4 : decode cX12_say 4 = .ok (.sipush 200, 3) := by decide +kernel
theorem dX12_say_7 : decode cX12_say 7 = .ok (.if_icmp .gt 7, 3) := by decide +kernel
theorem dX12_say_10 : decode cX12_say 10 = .ok (.iconst 1, 1) := by decide +kernel
theorem dX12_say_11 : decode cX12_say 11 = .ok (.goto 4, 3) := by decide +kernel
theorem dX12_say_14 : decode cX12_say 14 = .ok (.iconst 0, 1) := by decide +kernel
theorem dX12_say_15 : decode cX12_say 15 = .ok (.istore_n 1, 1) := by decide +kernel
theorem dX12_say_16 : decode cX12_say 16 = .ok (.iconst 0, 1) := by decide +kernel
theorem dX12_say_17 : decode cX12_say 17 = .ok (.istore_n 2, 1) := by decide +kernel
theorem dX12_say_18 : decode cX12_say 18 = .ok (.iload_n 2, 1) := by decide +kernel
theorem dX12_say_19 : decode cX12_say 19 = .ok (.aload_n 0, 1) := by decide +kernel
theorem dX12_say_20 : decode cX12_say 20 = .ok (.getfield 270, 3) := by decide +kernel
theorem dX12_say_23 : decode cX12_say 23 = .ok (.if_icmp .ge 41, 3) := by decide +kernel
theorem dX12_say_26 : decode cX12_say 26 = .ok (.iload_n 1, 1) := by decide +kernel
theorem dX12_say_27 : decode cX12_say 27 = .ok (.ifCond .eq 29, 3) := by decide +kernel
theorem dX12_say_30 : decode cX12_say 30 = .ok (.aload_n 0, 1) := by decide +kernel
theorem dX12_say_31 : decode cX12_say 31 = .ok (.getfield 7, 3) := by decide +kernel
theorem dX12_say_34 : decode cX12_say 34 = .ok (.iload_n 2, 1) := by decide +kernel
theorem dX12_say_35 : decode cX12_say 35 = .ok (.caload, 1) := by decide +kernel
theorem dX12_say_36 : decode cX12_say 36 = .ok (.bipush 125, 2) := by decide +kernel
theorem dX12_say_38 : decode cX12_say 38 = .ok (.if_icmp .eq 18, 3) := by decide +kernel
theorem dX12_say_41 : decode cX12_say 41 = .ok (.aload_n 0, 1) := by decide +kernel
theorem dX12_say_42 : decode cX12_say 42 = .ok (.getfield 7, 3) := by decide +kernel
theorem dX12_say_45 : decode cX12_say 45 = .ok (.iload_n 2, 1) := by decide +kernel
theorem dX12_say_46 : decode cX12_say 46 = .ok (.caload, 1) := by decide +kernel
theorem dX12_say_47 : decode cX12_say 47 = .ok (.bipush 10, 2) := by decide +kernel
theorem dX12_say_49 : decode cX12_say 49 = .ok (.if_icmp .eq 7, 3) := by decide +kernel
theorem dX12_say_52 : decode cX12_say 52 = .ok (.iconst 1, 1) := by decide +kernel
theorem dX12_say_53 : decode cX12_say 53 = .ok (.goto 4, 3) := by decide +kernel
theorem dX12_say_56 : decode cX12_say 56 = .ok (.iconst 0, 1) := by decide +kernel
theorem dX12_say_57 : decode cX12_say 57 = .ok (.istore_n 1, 1) := by decide +kernel
theorem dX12_say_58 : decode cX12_say 58 = .ok (.iinc 2 1, 3) := by decide +kernel
theorem dX12_say_61 : decode cX12_say 61 = .ok (.goto (-43), 3) := by decide +kernel
theorem dX12_say_64 : decode cX12_say 64 = .ok (.aload_n 0, 1) := by decide +kernel
theorem dX12_say_65 : decode cX12_say 65 = .ok (.iload_n 1, 1) := by decide +kernel
theorem dX12_say_66 : decode cX12_say 66 = .ok (.ifCond .eq 7, 3) := by decide +kernel
theorem dX12_say_69 : decode cX12_say 69 = .ok (.iconst 0, 1) := by decide +kernel
theorem dX12_say_70 : decode cX12_say 70 = .ok (.goto 4, 3) := by decide +kernel
theorem dX12_say_73 : decode cX12_say 73 = .ok (.iconst 1, 1) := by decide +kernel
theorem dX12_say_74 : decode cX12_say 74 = .ok (.putfield 99, 3) := by decide +kernel
theorem dX12_say_77 : decode cX12_say 77 = .ok (.aload_n 0, 1) := by decide +kernel
theorem dX12_say_78 : decode cX12_say 78 = .ok (.getfield 99, 3) := by decide +kernel
theorem dX12_say_81 : decode cX12_say 81 = .ok (.ifCond .le 5, 3) := by decide +kernel
theorem dX12_say_84 : decode cX12_say 84 = .ok (.iconst 0, 1) := by decide +kernel
theorem dX12_say_85 : decode cX12_say 85 = .ok (.ireturn, 1) := by decide +kernel
theorem dX12_say_86 : decode cX12_say 86 = .ok (.sipush 301, 3) := by decide +kernel
theorem dX12_say_89 : decode cX12_say 89 = .ok (.aload_n 0, 1) := by decide +kernel
theorem dX12_say_90 : decode cX12_say 90 = .ok (.getfield 347, 3) := by decide +kernel
theorem dX12_say_93 : decode cX12_say 93 = .ok (.imul, 1) := by decide +kernel
theorem dX12_say_94 : decode cX12_say 94 = .ok (.aload_n 0, 1) := by decide +kernel
theorem dX12_say_95 : decode cX12_say 95 = .ok (.getfield 353, 3) := by decide +kernel
theorem dX12_say_98 : decode cX12_say 98 = .ok (.iadd, 1) := by decide +kernel
theorem dX12_say_99 : decode cX12_say 99 = .ok (.istore_n 2, 1) := by decide +kernel
theorem dX12_say_100 : decode cX12_say 100 = .ok (.iconst 0, 1) := by decide +kernel
theorem dX12_say_101 : decode cX12_say 101 = .ok (.istore_n 3, 1) := by decide +kernel
theorem dX12_say_102 : decode cX12_say 102 = .ok (.iload_n 3, 1) := by decide +kernel
theorem dX12_say_103 : decode cX12_say 103 = .ok (.aload_n 0, 1) := by decide +kernel
theorem dX12_say_104 : decode cX12_say 104 = .ok (.getfield 270, 3) := by decide +kernel
theorem dX12_say_107 : decode cX12_say 107 = .ok (.if_icmp .ge 27, 3) := by decide +kernel
theorem dX12_say_110 : decode cX12_say 110 = .ok (.aload_n 0, 1) := by decide +kernel
theorem dX12_say_111 : decode cX12_say 111 = .ok (.getfield 43, 3) := by decide +kernel
theorem dX12_say_114 : decode cX12_say 114 = .ok (.sipush 200, 3) := by decide +kernel
theorem dX12_say_117 : decode cX12_say 117 = .ok (.iload_n 2, 1) := by decide +kernel
theorem dX12_say_118 : decode cX12_say 118 = .ok (.imul, 1) := by decide +kernel
theorem dX12_say_119 : decode cX12_say 119 = .ok (.iload_n 3, 1) := by decide +kernel
theorem dX12_say_120 : decode cX12_say 120 = .ok (.iadd, 1) := by decide +kernel
theorem dX12_say_121 : decode cX12_say 121 = .ok (.aload_n 0, 1) := by decide +kernel
theorem dX12_say_122 : decode cX12_say 122 = .ok (.getfield 7, 3) := by decide +kernel
theorem dX12_say_125 : decode cX12_say 125 = .ok (.iload_n 3, 1) := by decide +kernel
theorem dX12_say_126 : decode cX12_say 126 = .ok (.caload, 1) := by decide +kernel
theorem dX12_say_127 : decode cX12_say 127 = .ok (.castore, 1) := by decide +kernel
theorem dX12_say_128 : decode cX12_say 128 = .ok (.iinc 3 1, 3) := by decide +kernel
theorem dX12_say_131 : decode cX12_say 131 = .ok (.goto (-29), 3) := by decide +kernel
theorem dX12_say_134 : decode cX12_say 134 = .ok (.aload_n 0, 1) := by decide +kernel
theorem dX12_say_135 : decode cX12_say 135 = .ok (.getfield 39, 3) := by decide +kernel
theorem dX12_say_138 : decode cX12_say 138 = .ok (.iload_n 2, 1) := by decide +kernel
theorem dX12_say_139 : decode cX12_say 139 = .ok (.aload_n 0, 1) := by decide +kernel
theorem dX12_say_140 : decode cX12_say 140 = .ok (.getfield 270, 3) := by decide +kernel
theorem dX12_say_143 : decode cX12_say 143 = .ok (.iastore, 1) := by decide +kernel
theorem dX12_say_144 : decode cX12_say 144 = .ok (.aload_n 0, 1) := by decide +kernel
theorem dX12_say_145 : decode cX12_say 145 = .ok (.iconst 0, 1) := by decide +kernel
theorem dX12_say_146 : decode cX12_say 146 = .ok (.putfield 270, 3) := by decide +kernel
theorem dX12_say_149 : decode cX12_say 149 = .ok (.aload_n 0, 1) := by decide +kernel
theorem dX12_say_150 : decode cX12_say 150 = .ok (.getfield 39, 3) := by decide +kernel
theorem dX12_say_153 : decode cX12_say 153 = .ok (.iload_n 2, 1) := by decide +kernel
theorem dX12_say_154 : decode cX12_say 154 = .ok (.iaload, 1) := by decide +kernel
theorem dX12_say_155 : decode cX12_say 155 = .ok (.ireturn, 1) := by decide +kernel
theorem dX12_isBehind_0 : decode cX12_isBehind 0 = .ok (.iload_n 1, 1) := by decide +kernel
theorem dX12_isBehind_1 : decode cX12_isBehind 1 = .ok (.istore_n 3, 1) := by decide +kernel
theorem dX12_isBehind_2 : decode cX12_isBehind 2 = .ok (.iload_n 3, 1) := by decide +kernel
theorem dX12_isBehind_3 : decode cX12_isBehind 3 = .ok (.iload_n 2, 1) := by decide +kernel
theorem dX12_isBehind_4 : decode cX12_isBehind 4 = .ok (.if_icmp .le 22, 3) := by decide +kernel
theorem dX12_isBehind_7 : decode cX12_isBehind 7 = .ok (.aload_n 0, 1) := by decide +kernel
theorem dX12_isBehind_8 : decode cX12_isBehind 8 = .ok (.getfield 21, 3) := by decide +kernel
theorem dX12_isBehind_11 : decode cX12_isBehind 11 = .ok (.sipush 301, 3) := by decide +kernel
theorem dX12_isBehind_14 : decode cX12_isBehind 14 = .ok (.aload_n 0, 1) := by decide +kernel
theorem dX12_isBehind_15 : decode cX12_isBehind 15 = .ok (.getfield 347, 3) := by decide +kernel
theorem dX12_isBehind_18 : decode cX12_isBehind 18 = .ok (.imul, 1) := by decide +kernel
theorem dX12_isBehind_19 : decode cX12_isBehind 19 = .ok (.iload_n 3, 1) := by decide +kernel
theorem dX12_isBehind_20 : decode cX12_isBehind 20 = .ok (.iadd, 1) := by decide +kernel
theorem dX12_isBehind_21 : decode cX12_isBehind 21 = .ok (.iaload, 1) := by decide +kernel
theorem dX12_isBehind_22 : decode cX12_isBehind 22 = .ok (.istore_n 3, 1) := by decide +kernel
theorem dX12_isBehind_23 : decode cX12_isBehind 23 = .ok (.goto (-21), 3) := by decide +kernel
theorem dX12_isBehind_26 : decode cX12_isBehind 26 = .ok (.iload_n 3, 1) := by decide +kernel
theorem dX12_isBehind_27 : decode cX12_isBehind 27 = .ok (.iload_n 2, 1) := by decide +kernel
theorem dX12_isBehind_28 : decode cX12_isBehind 28 = .ok (.if_icmp .ne 7, 3) := by decide +kernel
theorem dX12_isBehind_31 : decode cX12_isBehind 31 = .ok (.iconst 1, 1) := by decide +kernel
theorem dX12_isBehind_32 : decode cX12_isBehind 32 = .ok (.goto 4, 3) := by decide +kernel
theorem dX12_isBehind_35 : decode cX12_isBehind 35 = .ok (.iconst 0, 1) := by decide +kernel
theorem dX12_isBehind_36 : decode cX12_isBehind 36 = .ok (.ireturn, 1) := by decide +kernel
theorem dX12_lead_0 : decode cX12_lead 0 = .ok (.aload_n 0, 1) := by decide +kernel
theorem dX12_lead_1 : decode cX12_lead 1 = .ok (.aload_n 0, 1) := by decide +kernel
theorem dX12_lead_2 : decode cX12_lead 2 = .ok (.getfield 353, 3) := by decide +kernel
theorem dX12_lead_5 : decode cX12_lead 5 = .ok (.ifCond .ne 7, 3) := by decide +kernel
theorem dX12_lead_8 : decode cX12_lead 8 = .ok (.iconst 1, 1) := by decide +kernel
theorem dX12_lead_9 : decode cX12_lead 9 = .ok (.goto 4, 3) := by decide +kernel
theorem dX12_lead_12 : decode cX12_lead 12 = .ok (.iconst 0, 1) := by decide +kernel
theorem dX12_lead_13 : decode cX12_lead 13 = .ok (.putfield 99, 3) := by decide +kernel
theorem dX12_lead_16 : decode cX12_lead 16 = .ok (.aload_n 0, 1) := by decide +kernel
theorem dX12_lead_17 : decode cX12_lead 17 = .ok (.getfield 99, 3) := by decide +kernel
theorem dX12_lead_20 : decode cX12_lead 20 = .ok (.ifCond .le 5, 3) := by decide +kernel
theorem dX12_lead_23 : decode cX12_lead 23 = .ok (.iconst 0, 1) := by decide +kernel
theorem dX12_lead_24 : decode cX12_lead 24 = .ok (.ireturn, 1) := by decide +kernel
theorem dX12_lead_25 : decode cX12_lead 25 = .ok (.aload_n 0, 1) := by decide +kernel
theorem dX12_lead_26 : decode cX12_lead 26 = .ok (.getfield 21, 3) := by decide +kernel
theorem dX12_lead_29 : decode cX12_lead 29 = .ok (.sipush 301, 3) := by decide +kernel
theorem dX12_lead_32 : decode cX12_lead 32 = .ok (.aload_n 0, 1) := by decide +kernel
theorem dX12_lead_33 : decode cX12_lead 33 = .ok (.getfield 347, 3) := by decide +kernel
theorem dX12_lead_36 : decode cX12_lead 36 = .ok (.imul, 1) := by decide +kernel
theorem dX12_lead_37 : decode cX12_lead 37 = .ok (.aload_n 0, 1) := by decide +kernel
theorem dX12_lead_38 : decode cX12_lead 38 = .ok (.getfield 353, 3) := by decide +kernel
theorem dX12_lead_41 : decode cX12_lead 41 = .ok (.iadd, 1) := by decide +kernel
theorem dX12_lead_42 : decode cX12_lead 42 = .ok (.iaload, 1) := by decide +kernel
theorem dX12_lead_43 : decode cX12_lead 43 = .ok (.istore_n 1, 1) := by decide +kernel
theorem dX12_lead_44 : decode cX12_lead 44 = .ok (.aload_n 0, 1) := by decide +kernel
theorem dX12_lead_45 : decode cX12_lead 45 = .ok (.getfield 27, 3) := by decide +kernel
theorem dX12_lead_48 : decode cX12_lead 48 = .ok (.sipush 301, 3) := by decide +kernel
theorem dX12_lead_51 : decode cX12_lead 51 = .ok (.aload_n 0, 1) := by decide +kernel
theorem dX12_lead_52 : decode cX12_lead 52 = .ok (.getfield 347, 3) := by decide +kernel
theorem dX12_lead_55 : decode cX12_lead 55 = .ok (.imul, 1) := by decide +kernel
theorem dX12_lead_56 : decode cX12_lead 56 = .ok (.iload_n 1, 1) := by decide +kernel
theorem dX12_lead_57 : decode cX12_lead 57 = .ok (.iadd, 1) := by decide +kernel
theorem dX12_lead_58 : decode cX12_lead 58 = .ok (.iaload, 1) := by decide +kernel
theorem dX12_lead_59 : decode cX12_lead 59 = .ok (.istore_n 2, 1) := by decide +kernel
theorem dX12_lead_60 : decode cX12_lead 60 = .ok (.iload_n 2, 1) := by decide +kernel
theorem dX12_lead_61 : decode cX12_lead 61 = .ok (.aload_n 0, 1) := by decide +kernel
theorem dX12_lead_62 : decode cX12_lead 62 = .ok (.getfield 353, 3) := by decide +kernel
theorem dX12_lead_65 : decode cX12_lead 65 = .ok (.if_icmp .ne 5, 3) := by decide +kernel
theorem dX12_lead_68 : decode cX12_lead 68 = .ok (.iconst 0, 1) := by decide +kernel
theorem dX12_lead_69 : decode cX12_lead 69 = .ok (.ireturn, 1) := by decide +kernel
theorem dX12_lead_70 : decode cX12_lead 70 = .ok (.iconst 1, 1) := by decide +kernel
theorem dX12_lead_71 : decode cX12_lead 71 = .ok (.istore_n 3, 1) := by decide +kernel
theorem dX12_lead_72 : decode cX12_lead 72 = .ok (.iload_n 3, 1) := by decide +kernel
theorem dX12_lead_73 : decode cX12_lead 73 = .ok (.aload_n 0, 1) := by decide +kernel
theorem dX12_lead_74 : decode cX12_lead 74 = .ok (.getfield 17, 3) := by decide +kernel
theorem dX12_lead_77 : decode cX12_lead 77 = .ok (.aload_n 0, 1) := by decide +kernel
theorem dX12_lead_78 : decode cX12_lead 78 = .ok (.getfield 347, 3) := by decide +kernel
theorem dX12_lead_81 : decode cX12_lead 81 = .ok (.iaload, 1) := by decide +kernel
theorem dX12_lead_82 : decode cX12_lead 82 = .ok (.if_icmp .gt 39, 3) := by decide +kernel
theorem dX12_lead_85 : decode cX12_lead 85 = .ok (.aload_n 0, 1) := by decide +kernel
theorem dX12_lead_86 : decode cX12_lead 86 = .ok (.iload_n 3, 1) := by decide +kernel
theorem dX12_lead_87 : decode cX12_lead 87 = .ok (.iload_n 2, 1) := by decide +kernel
theorem dX12_lead_88 : decode cX12_lead 88 = .ok (.invokevirtual 395, 3) := by decide +kernel
theorem dX12_lead_91 : decode cX12_lead 91 = .ok (.ifCond .eq 24, 3) := by decide +kernel
theorem dX12_lead_94 : decode cX12_lead 94 = .ok (.aload_n 0, 1) := by decide +kernel
theorem dX12_lead_95 : decode cX12_lead 95 = .ok (.aload_n 0, 1) := by decide +kernel
theorem dX12_lead_96 : decode cX12_lead 96 = .ok (.getfield 347, 3) := by decide +kernel
theorem dX12_lead_99 : decode cX12_lead 99 = .ok (.iload_n 3, 1) := by decide +kernel
theorem dX12_lead_100 : decode cX12_lead 100 = .ok (.invokevirtual 392, 3) := by decide +kernel
theorem dX12_lead_103 : decode cX12_lead 103 = .ok (.bipush 6, 2) := by decide +kernel
theorem dX12_lead_105 : decode cX12_lead 105 = .ok (.if_icmp .ne 10, 3) := by decide +kernel
theorem dX12_lead_108 : decode cX12_lead 108 = .ok (.aload_n 0, 1) := by decide +kernel
theorem dX12_lead_109 : decode cX12_lead 109 = .ok (.iconst 1, 1) := by decide +kernel
theorem dX12_lead_110 : decode cX12_lead 110 = .ok (.putfield 99, 3) := by decide +kernel
theorem dX12_lead_113 : decode cX12_lead 113 = .ok (.iconst 0, 1) := by decide +kernel
theorem dX12_lead_114 : decode cX12_lead 114 = .ok (.ireturn, 1) := by decide +kernel
theorem dX12_lead_115 : decode cX12_lead 115 = .ok (.iinc 3 1, 3) := by decide +kernel
theorem dX12_lead_118 : decode cX12_lead 118 = .ok (.goto (-46), 3) := by decide +kernel
theorem dX12_lead_121 : decode cX12_lead 121 = .ok (.iload_n 2, 1) := by decide +kernel
theorem dX12_lead_122 : decode cX12_lead 122 = .ok (.istore_n 3, 1) := by decide +kernel
theorem dX12_lead_123 : decode cX12_lead 123 = .ok (.aload_n 0, 1) := by decide +kernel
theorem dX12_lead_124 : decode cX12_lead 124 = .ok (.getfield 30, 3) := by decide +kernel
theorem dX12_lead_127 : decode cX12_lead 127 = .ok (.sipush 301, 3) := by decide +kernel
theorem dX12_lead_130 : decode cX12_lead 130 = .ok (.aload_n 0, 1) := by decide +kernel
theorem dX12_lead_131 : decode cX12_lead 131 = .ok (.getfield 347, 3) := by decide +kernel
theorem dX12_lead_134 : decode cX12_lead 134 = .ok (.imul, 1) := by decide +kernel
theorem dX12_lead_135 : decode cX12_lead 135 = .ok (.iload_n 3, 1) := by decide +kernel
theorem dX12_lead_136 : decode cX12_lead 136 = .ok (.iadd, 1) := by decide +kernel
theorem dX12_lead_137 : decode cX12_lead 137 = .ok (.iaload, 1) := by decide +kernel
theorem dX12_lead_138 : decode cX12_lead 138 = .ok (.aload_n 0, 1) := by decide +kernel
theorem dX12_lead_139 : decode cX12_lead 139 = .ok (.getfield 353, 3) := by decide +kernel
theorem dX12_lead_142 : decode cX12_lead 142 = .ok (.if_icmp .eq 22, 3) := by decide +kernel
theorem dX12_lead_145 : decode cX12_lead 145 = .ok (.aload_n 0, 1) := by decide +kernel
theorem dX12_lead_146 : decode cX12_lead 146 = .ok (.getfield 30, 3) := by decide +kernel
theorem dX12_lead_149 : decode cX12_lead 149 = .ok (.sipush 301, 3) := by decide +kernel
theorem dX12_lead_152 : decode cX12_lead 152 = .ok (.aload_n 0, 1) := by decide +kernel
theorem dX12_lead_153 : decode cX12_lead 153 = .ok (.getfield 347, 3) := by decide +kernel
theorem dX12_lead_156 : decode cX12_lead 156 = .ok (.imul, 1) := by decide +kernel
theorem dX12_lead_157 : decode cX12_lead 157 = .ok (.iload_n 3, 1) := by decide +kernel
theorem dX12_lead_158 : decode cX12_lead 158 = .ok (.iadd, 1) := by decide +kernel
theorem dX12_lead_159 : decode cX12_lead 159 = .ok (.iaload, 1) := by decide +kernel
theorem dX12_lead_160 : decode cX12_lead 160 = .ok (.istore_n 3, 1) := by decide +kernel
theorem dX12_lead_161 : decode cX12_lead 161 = .ok (.goto (-38), 3) := by decide +kernel
theorem dX12_lead_164 : decode cX12_lead 164 = .ok (.aload_n 0, 1) := by decide +kernel
theorem dX12_lead_165 : decode cX12_lead 165 = .ok (.getfield 30, 3) := by decide +kernel
theorem dX12_lead_168 : decode cX12_lead 168 = .ok (.sipush 301, 3) := by decide +kernel
theorem dX12_lead_171 : decode cX12_lead 171 = .ok (.aload_n 0, 1) := by decide +kernel
theorem dX12_lead_172 : decode cX12_lead 172 = .ok (.getfield 347, 3) := by decide +kernel
theorem dX12_lead_175 : decode cX12_lead 175 = .ok (.imul, 1) := by decide +kernel
theorem dX12_lead_176 : decode cX12_lead 176 = .ok (.iload_n 3, 1) := by decide +kernel
theorem dX12_lead_177 : decode cX12_lead 177 = .ok (.iadd, 1) := by decide +kernel
theorem dX12_lead_178 : decode cX12_lead 178 = .ok (.aload_n 0, 1) := by decide +kernel
theorem dX12_lead_179 : decode cX12_lead 179 = .ok (.getfield 30, 3) := by decide +kernel
theorem dX12_lead_182 : decode cX12_lead 182 = .ok (.sipush 301, 3) := by decide +kernel
theorem dX12_lead_185 : decode cX12_lead 185 = .ok (.aload_n 0, 1) := by decide +kernel
theorem dX12_lead_186 : decode cX12_lead 186 = .ok (.getfield 347, 3) := by decide +kernel
theorem dX12_lead_189 : decode cX12_lead 189 = .ok (.imul, 1) := by decide +kernel
theorem dX12_lead_190 : decode cX12_lead 190 = .ok (.aload_n 0, 1) := by decide +kernel
theorem dX12_lead_191 : decode cX12_lead 191 = .ok (.getfield 353, 3) := by decide +kernel
theorem dX12_lead_194 : decode cX12_lead 194 = .ok (.iadd, 1) := by decide +kernel
theorem dX12_lead_195 : decode cX12_lead 195 = .ok (.iaload, 1) := by decide +kernel
theorem dX12_lead_196 : decode cX12_lead 196 = .ok (.iastore, 1) := by decide +kernel
theorem dX12_lead_197 : decode cX12_lead 197 = .ok (.aload_n 0, 1) := by decide +kernel
theorem dX12_lead_198 : decode cX12_lead 198 = .ok (.getfield 30, 3) := by decide +kernel
theorem dX12_lead_201 : decode cX12_lead 201 = .ok (.sipush 301, 3) := by decide +kernel
theorem dX12_lead_204 : decode cX12_lead 204 = .ok (.aload_n 0, 1) := by decide +kernel
theorem dX12_lead_205 : decode cX12_lead 205 = .ok (.getfield 347, 3) := by decide +kernel
theorem dX12_lead_208 : decode cX12_lead 208 = .ok (.imul, 1) := by decide +kernel
theorem dX12_lead_209 : decode cX12_lead 209 = .ok (.aload_n 0, 1) := by decide +kernel
theorem dX12_lead_210 : decode cX12_lead 210 = .ok (.getfield 353, 3) := by decide +kernel
theorem dX12_lead_213 : decode cX12_lead 213 = .ok (.iadd, 1) := by decide +kernel
theorem dX12_lead_214 : decode cX12_lead 214 = .ok (.iload_n 2, 1) := by decide +kernel
theorem dX12_lead_215 : decode cX12_lead 215 = .ok (.iastore, 1) := by decide +kernel
theorem dX12_lead_216 : decode cX12_lead 216 = .ok (.aload_n 0, 1) := by decide +kernel
theorem dX12_lead_217 : decode cX12_lead 217 = .ok (.getfield 27, 3) := by decide +kernel
theorem dX12_lead_220 : decode cX12_lead 220 = .ok (.sipush 301, 3) := by decide +kernel
theorem dX12_lead_223 : decode cX12_lead 223 = .ok (.aload_n 0, 1) := by decide +kernel
theorem dX12_lead_224 : decode cX12_lead 224 = .ok (.getfield 347, 3) := by decide +kernel
theorem dX12_lead_227 : decode cX12_lead 227 = .ok (.imul, 1) := by decide +kernel
theorem dX12_lead_228 : decode cX12_lead 228 = .ok (.iload_n 1, 1) := by decide +kernel
theorem dX12_lead_229 : decode cX12_lead 229 = .ok (.iadd, 1) := by decide +kernel
theorem dX12_lead_230 : decode cX12_lead 230 = .ok (.aload_n 0, 1) := by decide +kernel
theorem dX12_lead_231 : decode cX12_lead 231 = .ok (.getfield 353, 3) := by decide +kernel
theorem dX12_lead_234 : decode cX12_lead 234 = .ok (.iastore, 1) := by decide +kernel
theorem dX12_lead_235 : decode cX12_lead 235 = .ok (.iconst 1, 1) := by decide +kernel
theorem dX12_lead_236 : decode cX12_lead 236 = .ok (.ireturn, 1) := by decide +kernel
theorem dX12_end_0 : decode cX12_end 0 = .ok (.aload_n 0, 1) := by decide +kernel
theorem dX12_end_1 : decode cX12_end 1 = .ok (.iload_n 1, 1) := by decide +kernel
theorem dX12_end_2 : decode cX12_end 2 = .ok (.ifCond .lt 8, 3) := by decide +kernel
theorem dX12_end_5 : decode cX12_end 5 = .ok (.iload_n 1, 1) := by decide +kernel
theorem dX12_end_6 : decode cX12_end 6 = .ok (.iconst 3, 1) := by decide +kernel
theorem dX12_end_7 : decode cX12_end 7 = .ok (.if_icmp .le 7, 3) := by decide +kernel
theorem dX12_end_10 : decode cX12_end 10 = .ok (.iconst 1, 1) := by decide +kernel
theorem dX12_end_11 : decode cX12_end 11 = .ok (.goto 4, 3) := by decide +kernel
theorem dX12_end_14 : decode cX12_end 14 = .ok (.iconst 0, 1) := by decide +kernel
theorem dX12_end_15 : decode cX12_end 15 = .ok (.putfield 99, 3) := by decide +kernel
theorem dX12_end_18 : decode cX12_end 18 = .ok (.aload_n 0, 1) := by decide +kernel
theorem dX12_end_19 : decode cX12_end 19 = .ok (.getfield 67, 3) := by decide +kernel
theorem dX12_end_22 : decode cX12_end 22 = .ok (.aload_n 0, 1) := by decide +kernel
theorem dX12_end_23 : decode cX12_end 23 = .ok (.getfield 347, 3) := by decide +kernel
theorem dX12_end_26 : decode cX12_end 26 = .ok (.aload_n 0, 1) := by decide +kernel
theorem dX12_end_27 : decode cX12_end 27 = .ok (.getfield 99, 3) := by decide +kernel
theorem dX12_end_30 : decode cX12_end 30 = .ok (.ifCond .le 15, 3) := by decide +kernel
theorem dX12_end_33 : decode cX12_end 33 = .ok (.aload_n 0, 1) := by decide +kernel
theorem dX12_end_34 : decode cX12_end 34 = .ok (.getfield 67, 3) := by decide +kernel
theorem dX12_end_37 : decode cX12_end 37 = .ok (.aload_n 0, 1) := by decide +kernel
theorem dX12_end_38 : decode cX12_end 38 = .ok (.getfield 347, 3) := by decide +kernel
theorem dX12_end_41 : decode cX12_end 41 = .ok (.iaload, 1) := by decide +kernel
theorem dX12_end_42 : decode cX12_end 42 = .ok (.goto 4, 3) := by decide +kernel
theorem dX12_end_45 : decode cX12_end 45 = .ok (.iload_n 1, 1) := by decide +kernel
theorem dX12_end_46 : decode cX12_end 46 = .ok (.iastore, 1) := by decide +kernel
theorem dX12_end_47 : decode cX12_end 47 = .ok (.return_, 1) := by decide +kernel
theorem dX12_result_0 : decode cX12_result 0 = .ok (.aload_n 0, 1) := by decide +kernel
theorem dX12_result_1 : decode cX12_result 1 = .ok (.iconst 0, 1) := by decide +kernel
theorem dX12_result_2 : decode cX12_result 2 = .ok (.putfield 99, 3) := by decide +kernel
theorem dX12_result_5 : decode cX12_result 5 = .ok (.aload_n 0, 1) := by decide +kernel
theorem dX12_result_6 : decode cX12_result 6 = .ok (.getfield 67, 3) := by decide +kernel
theorem dX12_result_9 : decode cX12_result 9 = .ok (.aload_n 0, 1) := by decide +kernel
theorem dX12_result_10 : decode cX12_result 10 = .ok (.getfield 347, 3) := by decide +kernel
theorem dX12_result_13 : decode cX12_result 13 = .ok (.iaload, 1) := by decide +kernel
theorem dX12_result_14 : decode cX12_result 14 = .ok (.ireturn, 1) := by decide +kernel
theorem dX12_tags_0 : decode cX12_tags 0 = .ok (.aload_n 0, 1) := by decide +kernel
theorem dX12_tags_1 : decode cX12_tags 1 = .ok (.iconst 0, 1) := by decide +kernel
theorem dX12_tags_2 : decode cX12_tags 2 = .ok (.putfield 99, 3) := by decide +kernel
theorem dX12_tags_5 : decode cX12_tags 5 = .ok (.aload_n 0, 1) := by decide +kernel
theorem dX12_tags_6 : decode cX12_tags 6 = .ok (.getfield 52, 3) := by decide +kernel
theorem dX12_tags_9 : decode cX12_tags 9 = .ok (.aload_n 0, 1) := by decide +kernel
theorem dX12_tags_10 : decode cX12_tags 10 = .ok (.getfield 347, 3) := by decide +kernel
theorem dX12_tags_13 : decode cX12_tags 13 = .ok (.iaload, 1) := by decide +kernel
theorem dX12_tags_14 : decode cX12_tags 14 = .ok (.ireturn, 1) := by decide +kernel
theorem dX12_tag_0 : decode cX12_tag 0 = .ok (.aload_n 0, 1) := by decide +kernel
theorem dX12_tag_1 : decode cX12_tag 1 = .ok (.iload_n 1, 1) := by decide +kernel
theorem dX12_tag_2 : decode cX12_tag 2 = .ok (.ifCond .lt 20, 3) := by decide +kernel
theorem dX12_tag_5 : decode cX12_tag 5 = .ok (.iload_n 1, 1) := by decide +kernel
theorem dX12_tag_6 : decode cX12_tag 6 = .ok (.aload_n 0, 1) := by decide +kernel
theorem dX12_tag_7 : decode cX12_tag 7 = .ok (.getfield 52, 3) := by decide +kernel
theorem dX12_tag_10 : decode cX12_tag 10 = .ok (.aload_n 0, 1) := by decide +kernel
theorem dX12_tag_11 : decode cX12_tag 11 = .ok (.getfield 347, 3) := by decide +kernel
theorem dX12_tag_14 : decode cX12_tag 14 = .ok (.iaload, 1) := by decide +kernel
theorem dX12_tag_15 : decode cX12_tag 15 = .ok (.if_icmp .ge 7, 3) := by decide +kernel
theorem dX12_tag_18 : decode cX12_tag 18 = .ok (.iload_n 3, 1) := by decide +kernel
theorem dX12_tag_19 : decode cX12_tag 19 = .ok (.ifCond .ge 7, 3) := by decide +kernel
theorem dX12_tag_22 : decode cX12_tag 22 = .ok (.iconst 1, 1) := by decide +kernel
theorem dX12_tag_23 : decode cX12_tag 23 = .ok (.goto 4, 3) := by decide +kernel
theorem dX12_tag_26 : decode cX12_tag 26 = .ok (.iconst 0, 1) := by decide +kernel
theorem dX12_tag_27 : decode cX12_tag 27 = .ok (.putfield 99, 3) := by decide +kernel
theorem dX12_tag_30 : decode cX12_tag 30 = .ok (.aload_n 0, 1) := by decide +kernel
theorem dX12_tag_31 : decode cX12_tag 31 = .ok (.getfield 99, 3) := by decide +kernel
theorem dX12_tag_34 : decode cX12_tag 34 = .ok (.ifCond .le 5, 3) := by decide +kernel
theorem dX12_tag_37 : decode cX12_tag 37 = .ok (.iconst 0, 1) := by decide +kernel
theorem dX12_tag_38 : decode cX12_tag 38 = .ok (.ireturn, 1) := by decide +kernel
theorem dX12_tag_39 : decode cX12_tag 39 = .ok (.iload_n 2, 1) := by decide +kernel
theorem dX12_tag_40 : decode cX12_tag 40 = .ok (.ifCond .eq 20, 3) := by decide +kernel
theorem dX12_tag_43 : decode cX12_tag 43 = .ok (.aload_n 0, 1) := by decide +kernel
theorem dX12_tag_44 : decode cX12_tag 44 = .ok (.getfield 61, 3) := by decide +kernel
theorem dX12_tag_47 : decode cX12_tag 47 = .ok (.bipush 8, 2) := by decide +kernel
theorem dX12_tag_49 : decode cX12_tag 49 = .ok (.aload_n 0, 1) := by decide +kernel
theorem dX12_tag_50 : decode cX12_tag 50 = .ok (.getfield 347, 3) := by decide +kernel
theorem dX12_tag_53 : decode cX12_tag 53 = .ok (.imul, 1) := by decide +kernel
theorem dX12_tag_54 : decode cX12_tag 54 = .ok (.iload_n 1, 1) := by decide +kernel
theorem dX12_tag_55 : decode cX12_tag 55 = .ok (.iadd, 1) := by decide +kernel
theorem dX12_tag_56 : decode cX12_tag 56 = .ok (.iaload, 1) := by decide +kernel
theorem dX12_tag_57 : decode cX12_tag 57 = .ok (.goto 17, 3) := by decide +kernel
theorem dX12_tag_60 : decode cX12_tag 60 = .ok (.aload_n 0, 1) := by decide +kernel
theorem dX12_tag_61 : decode cX12_tag 61 = .ok (.getfield 55, 3) := by decide +kernel
theorem dX12_tag_64 : decode cX12_tag 64 = .ok (.bipush 8, 2) := by decide +kernel
theorem dX12_tag_66 : decode cX12_tag 66 = .ok (.aload_n 0, 1) := by decide +kernel
theorem dX12_tag_67 : decode cX12_tag 67 = .ok (.getfield 347, 3) := by decide +kernel
theorem dX12_tag_70 : decode cX12_tag 70 = .ok (.imul, 1) := by decide +kernel
theorem dX12_tag_71 : decode cX12_tag 71 = .ok (.iload_n 1, 1) := by decide +kernel
theorem dX12_tag_72 : decode cX12_tag 72 = .ok (.iadd, 1) := by decide +kernel
theorem dX12_tag_73 : decode cX12_tag 73 = .ok (.iaload, 1) := by decide +kernel
theorem dX12_tag_74 : decode cX12_tag 74 = .ok (.istore 4, 2) := by decide +kernel
theorem dX12_tag_76 : decode cX12_tag 76 = .ok (.iload_n 3, 1) := by decide +kernel
theorem dX12_tag_77 : decode cX12_tag 77 = .ok (.iload 4, 2) := by decide +kernel
theorem dX12_tag_79 : decode cX12_tag 79 = .ok (.if_icmp .lt 7, 3) := by decide +kernel
theorem dX12_tag_82 : decode cX12_tag 82 = .ok (.iconst 0, 1) := by decide +kernel
theorem dX12_tag_83 : decode cX12_tag 83 = .ok (.goto 49, 3) := by decide +kernel
theorem dX12_tag_86 : decode cX12_tag 86 = .ok (.iload_n 2, 1) := by decide +kernel
theorem dX12_tag_87 : decode cX12_tag 87 = .ok (.ifCond .eq 26, 3) := by decide +kernel
theorem dX12_tag_90 : decode cX12_tag 90 = .ok (.aload_n 0, 1) := by decide +kernel
theorem dX12_tag_91 : decode cX12_tag 91 = .ok (.getfield 64, 3) := by decide +kernel
theorem dX12_tag_94 : decode cX12_tag 94 = .ok (.sipush 768, 3) := by decide +kernel
theorem dX12_tag_97 : decode cX12_tag 97 = .ok (.aload_n 0, 1) := by decide +kernel
theorem dX12_tag_98 : decode cX12_tag 98 = .ok (.getfield 347, 3) := by decide +kernel
theorem dX12_tag_101 : decode cX12_tag 101 = .ok (.imul, 1) := by decide +kernel
theorem dX12_tag_102 : decode cX12_tag 102 = .ok (.bipush 96, 2) := by decide +kernel
theorem dX12_tag_104 : decode cX12_tag 104 = .ok (.iload_n 1, 1) := by decide +kernel
theorem dX12_tag_105 : decode cX12_tag 105 = .ok (.imul, 1) := by decide +kernel
theorem dX12_tag_106 : decode cX12_tag 106 = .ok (.iadd, 1) := by decide +kernel
theorem dX12_tag_107 : decode cX12_tag 107 = .ok (.iload_n 3, 1) := by decide +kernel
theorem dX12_tag_108 : decode cX12_tag 108 = .ok (.iadd, 1) := by decide +kernel
theorem dX12_tag_109 : decode cX12_tag 109 = .ok (.caload, 1) := by decide +kernel
theorem dX12_tag_110 : decode cX12_tag 110 = .ok (.goto 22, 3) := by decide +kernel
theorem dX12_tag_113 : decode cX12_tag 113 = .ok (.aload_n 0, 1) := by decide +kernel
theorem dX12_tag_114 : decode cX12_tag 114 = .ok (.getfield 58, 3) := by decide +kernel
theorem dX12_tag_117 : decode cX12_tag 117 = .ok (.bipush 96, 2) := by decide +kernel
theorem dX12_tag_119 : decode cX12_tag 119 = .ok (.aload_n 0, 1) := by decide +kernel
theorem dX12_tag_120 : decode cX12_tag 120 = .ok (.getfield 347, 3) := by decide +kernel
theorem dX12_tag_123 : decode cX12_tag 123 = .ok (.imul, 1) := by decide +kernel
theorem dX12_tag_124 : decode cX12_tag 124 = .ok (.bipush 12, 2) := by decide +kernel
theorem dX12_tag_126 : decode cX12_tag 126 = .ok (.iload_n 1, 1) := by decide +kernel
theorem dX12_tag_127 : decode cX12_tag 127 = .ok (.imul, 1) := by decide +kernel
theorem dX12_tag_128 : decode cX12_tag 128 = .ok (.iadd, 1) := by decide +kernel
theorem dX12_tag_129 : decode cX12_tag 129 = .ok (.iload_n 3, 1) := by decide +kernel
theorem dX12_tag_130 : decode cX12_tag 130 = .ok (.iadd, 1) := by decide +kernel
theorem dX12_tag_131 : decode cX12_tag 131 = .ok (.caload, 1) := by decide +kernel
theorem dX12_tag_132 : decode cX12_tag 132 = .ok (.ireturn, 1) := by decide +kernel
end
