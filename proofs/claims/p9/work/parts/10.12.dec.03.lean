theorem dX9_init_0 : decode cX9_init 0 = .ok (.aload_n 0, 1) := by decide +kernel
theorem dX9_init_1 : decode cX9_init 1 = .ok (.invokespecial 3, 3) := by decide +kernel
theorem dX9_init_4 : decode cX9_init 4 = .ok (.aload_n 0, 1) := by decide +kernel
theorem dX9_init_5 : decode cX9_init 5 = .ok (.new 9, 3) := by decide +kernel
theorem dX9_init_8 : decode cX9_init 8 = .ok (.dup, 1) := by decide +kernel
theorem dX9_init_9 : decode cX9_init 9 = .ok (.invokespecial 11, 3) := by decide +kernel
theorem dX9_init_12 : decode cX9_init 12 = .ok (.putfield 12, 3) := by decide +kernel
theorem dX9_init_15 : decode cX9_init 15 = .ok (.return_, 1) := by decide +kernel
theorem dX9_putSigns_0 : decode cX9_putSigns 0 = .ok (.iload_n 2, 1) := by decide +kernel
theorem dX9_putSigns_1 : decode cX9_putSigns 1 = .ok (.bipush 63, 2) := by decide +kernel
theorem dX9_putSigns_3 : decode cX9_putSigns 3 = .ok (.iand, 1) := by decide +kernel
theorem dX9_putSigns_4 : decode cX9_putSigns 4 = .ok (.istore 4, 2) := by decide +kernel
theorem dX9_putSigns_6 : decode cX9_putSigns 6 = .ok (.iload_n 2, 1) := by decide +kernel
theorem dX9_putSigns_7 : decode cX9_putSigns 7 = .ok (.bipush 6, 2) := by decide +kernel
theorem dX9_putSigns_9 : decode cX9_putSigns 9 = .ok (.ishr, 1) := by decide +kernel
theorem dX9_putSigns_10 : decode cX9_putSigns 10 = .ok (.bipush 63, 2) := by decide +kernel
theorem dX9_putSigns_12 : decode cX9_putSigns 12 = .ok (.iand, 1) := by decide +kernel
theorem dX9_putSigns_13 : decode cX9_putSigns 13 = .ok (.istore 5, 2) := by decide +kernel
theorem dX9_putSigns_15 : decode cX9_putSigns 15 = .ok (.aload_n 1, 1) := by decide +kernel
theorem dX9_putSigns_16 : decode cX9_putSigns 16 = .ok (.iload 4, 2) := by decide +kernel
theorem dX9_putSigns_18 : decode cX9_putSigns 18 = .ok (.iload 5, 2) := by decide +kernel
theorem dX9_putSigns_20 : decode cX9_putSigns 20 = .ok (.invokevirtual 18, 3) := by decide +kernel
theorem dX9_putSigns_23 : decode cX9_putSigns 23 = .ok (.ifCond .eq 24, 3) := by decide +kernel
theorem dX9_putSigns_26 : decode cX9_putSigns 26 = .ok (.aload_n 3, 1) := by decide +kernel
theorem dX9_putSigns_27 : decode cX9_putSigns 27 = .ok (.iload 5, 2) := by decide +kernel
theorem dX9_putSigns_29 : decode cX9_putSigns 29 = .ok (.iload 4, 2) := by decide +kernel
theorem dX9_putSigns_31 : decode cX9_putSigns 31 = .ok (.if_icmp .le 8, 3) := by decide +kernel
theorem dX9_putSigns_34 : decode cX9_putSigns 34 = .ok (.ldc 24, 2) := by decide +kernel
theorem dX9_putSigns_36 : decode cX9_putSigns 36 = .ok (.goto 5, 3) := by decide +kernel
theorem dX9_putSigns_39 : decode cX9_putSigns 39 = .ok (.ldc 26, 2) := by decide +kernel
theorem dX9_putSigns_41 : decode cX9_putSigns 41 = .ok (.invokevirtual 28, 3) := by decide +kernel
theorem dX9_putSigns_44 : decode cX9_putSigns 44 = .ok (.goto 92, 3) := by decide +kernel
theorem dX9_putSigns_47 : decode cX9_putSigns 47 = .ok (.aload_n 1, 1) := by decide +kernel
theorem dX9_putSigns_48 : decode cX9_putSigns 48 = .ok (.iload 4, 2) := by decide +kernel
theorem dX9_putSigns_50 : decode cX9_putSigns 50 = .ok (.iload 5, 2) := by decide +kernel
theorem dX9_putSigns_52 : decode cX9_putSigns 52 = .ok (.invokevirtual 34, 3) := by decide +kernel
theorem dX9_putSigns_55 : decode cX9_putSigns 55 = .ok (.istore 6, 2) := by decide +kernel
theorem dX9_putSigns_57 : decode cX9_putSigns 57 = .ok (.aload_n 1, 1) := by decide +kernel
theorem dX9_putSigns_58 : decode cX9_putSigns 58 = .ok (.iload 4, 2) := by decide +kernel
theorem dX9_putSigns_60 : decode cX9_putSigns 60 = .ok (.invokevirtual 37, 3) := by decide +kernel
theorem dX9_putSigns_63 : decode cX9_putSigns 63 = .ok (.iconst 1, 1) := by decide +kernel
theorem dX9_putSigns_64 : decode cX9_putSigns 64 = .ok (.if_icmp .eq 29, 3) := by decide +kernel
theorem dX9_putSigns_67 : decode cX9_putSigns 67 = .ok (.aload_n 3, 1) := by decide +kernel
theorem dX9_putSigns_68 : decode cX9_putSigns 68 = .ok (.aload_n 1, 1) := by decide +kernel
theorem dX9_putSigns_69 : decode cX9_putSigns 69 = .ok (.iload 4, 2) := by decide +kernel
theorem dX9_putSigns_71 : decode cX9_putSigns 71 = .ok (.invokevirtual 37, 3) := by decide +kernel
theorem dX9_putSigns_74 : decode cX9_putSigns 74 = .ok (.invokestatic 41, 3) := by decide +kernel
theorem dX9_putSigns_77 : decode cX9_putSigns 77 = .ok (.invokevirtual 45, 3) := by decide +kernel
theorem dX9_putSigns_80 : decode cX9_putSigns 80 = .ok (.aload_n 0, 1) := by decide +kernel
theorem dX9_putSigns_81 : decode cX9_putSigns 81 = .ok (.aload_n 1, 1) := by decide +kernel
theorem dX9_putSigns_82 : decode cX9_putSigns 82 = .ok (.iload 4, 2) := by decide +kernel
theorem dX9_putSigns_84 : decode cX9_putSigns 84 = .ok (.iload 5, 2) := by decide +kernel
theorem dX9_putSigns_86 : decode cX9_putSigns 86 = .ok (.aload_n 3, 1) := by decide +kernel
theorem dX9_putSigns_87 : decode cX9_putSigns 87 = .ok (.invokevirtual 49, 3) := by decide +kernel
theorem dX9_putSigns_90 : decode cX9_putSigns 90 = .ok (.goto 17, 3) := by decide +kernel
theorem dX9_putSigns_93 : decode cX9_putSigns 93 = .ok (.iload 6, 2) := by decide +kernel
theorem dX9_putSigns_95 : decode cX9_putSigns 95 = .ok (.ifCond .eq 12, 3) := by decide +kernel
theorem dX9_putSigns_98 : decode cX9_putSigns 98 = .ok (.aload_n 3, 1) := by decide +kernel
theorem dX9_putSigns_99 : decode cX9_putSigns 99 = .ok (.iload 4, 2) := by decide +kernel
theorem dX9_putSigns_101 : decode cX9_putSigns 101 = .ok (.invokestatic 53, 3) := by decide +kernel
theorem dX9_putSigns_104 : decode cX9_putSigns 104 = .ok (.invokevirtual 45, 3) := by decide +kernel
theorem dX9_putSigns_107 : decode cX9_putSigns 107 = .ok (.iload 6, 2) := by decide +kernel
theorem dX9_putSigns_109 : decode cX9_putSigns 109 = .ok (.ifCond .eq 9, 3) := by decide +kernel
theorem dX9_putSigns_112 : decode cX9_putSigns 112 = .ok (.aload_n 3, 1) := by decide +kernel
theorem dX9_putSigns_113 : decode cX9_putSigns 113 = .ok (.bipush 120, 2) := by decide +kernel
theorem dX9_putSigns_115 : decode cX9_putSigns 115 = .ok (.invokevirtual 45, 3) := by decide +kernel
theorem dX9_putSigns_118 : decode cX9_putSigns 118 = .ok (.aload_n 3, 1) := by decide +kernel
theorem dX9_putSigns_119 : decode cX9_putSigns 119 = .ok (.iload 5, 2) := by decide +kernel
theorem dX9_putSigns_121 : decode cX9_putSigns 121 = .ok (.invokestatic 53, 3) := by decide +kernel
theorem dX9_putSigns_124 : decode cX9_putSigns 124 = .ok (.invokevirtual 45, 3) := by decide +kernel
theorem dX9_putSigns_127 : decode cX9_putSigns 127 = .ok (.aload_n 3, 1) := by decide +kernel
theorem dX9_putSigns_128 : decode cX9_putSigns 128 = .ok (.iload 5, 2) := by decide +kernel
theorem dX9_putSigns_130 : decode cX9_putSigns 130 = .ok (.invokestatic 56, 3) := by decide +kernel
theorem dX9_putSigns_133 : decode cX9_putSigns 133 = .ok (.invokevirtual 45, 3) := by decide +kernel
theorem dX9_putSigns_136 : decode cX9_putSigns 136 = .ok (.iload_n 2, 1) := by decide +kernel
theorem dX9_putSigns_137 : decode cX9_putSigns 137 = .ok (.sipush 4096, 3) := by decide +kernel
theorem dX9_putSigns_140 : decode cX9_putSigns 140 = .ok (.if_icmp .lt 20, 3) := by decide +kernel
theorem dX9_putSigns_143 : decode cX9_putSigns 143 = .ok (.aload_n 3, 1) := by decide +kernel
theorem dX9_putSigns_144 : decode cX9_putSigns 144 = .ok (.bipush 61, 2) := by decide +kernel
theorem dX9_putSigns_146 : decode cX9_putSigns 146 = .ok (.invokevirtual 45, 3) := by decide +kernel
theorem dX9_putSigns_149 : decode cX9_putSigns 149 = .ok (.aload_n 3, 1) := by decide +kernel
theorem dX9_putSigns_150 : decode cX9_putSigns 150 = .ok (.iload_n 2, 1) := by decide +kernel
theorem dX9_putSigns_151 : decode cX9_putSigns 151 = .ok (.bipush 12, 2) := by decide +kernel
theorem dX9_putSigns_153 : decode cX9_putSigns 153 = .ok (.ishr, 1) := by decide +kernel
theorem dX9_putSigns_154 : decode cX9_putSigns 154 = .ok (.invokestatic 41, 3) := by decide +kernel
theorem dX9_putSigns_157 : decode cX9_putSigns 157 = .ok (.invokevirtual 45, 3) := by decide +kernel
theorem dX9_putSigns_160 : decode cX9_putSigns 160 = .ok (.aload_n 0, 1) := by decide +kernel
theorem dX9_putSigns_161 : decode cX9_putSigns 161 = .ok (.getfield 12, 3) := by decide +kernel
theorem dX9_putSigns_164 : decode cX9_putSigns 164 = .ok (.aload_n 1, 1) := by decide +kernel
theorem dX9_putSigns_165 : decode cX9_putSigns 165 = .ok (.iload_n 2, 1) := by decide +kernel
theorem dX9_putSigns_166 : decode cX9_putSigns 166 = .ok (.invokevirtual 59, 3) := by decide +kernel
theorem dX9_putSigns_169 : decode cX9_putSigns 169 = .ok (.istore 6, 2) := by decide +kernel
theorem dX9_putSigns_171 : decode cX9_putSigns 171 = .ok (.iload 6, 2) := by decide +kernel
theorem dX9_putSigns_173 : decode cX9_putSigns 173 = .ok (.ifCond .eq 9, 3) := by decide +kernel
theorem dX9_putSigns_176 : decode cX9_putSigns 176 = .ok (.aload_n 3, 1) := by decide +kernel
theorem dX9_putSigns_177 : decode cX9_putSigns 177 = .ok (.iload 6, 2) := by decide +kernel
theorem dX9_putSigns_179 : decode cX9_putSigns 179 = .ok (.invokevirtual 45, 3) := by decide +kernel
theorem dX9_putSigns_182 : decode cX9_putSigns 182 = .ok (.return_, 1) := by decide +kernel
theorem dX9_putApart_0 : decode cX9_putApart 0 = .ok (.iconst 0, 1) := by decide +kernel
theorem dX9_putApart_1 : decode cX9_putApart 1 = .ok (.istore 5, 2) := by decide +kernel
theorem dX9_putApart_3 : decode cX9_putApart 3 = .ok (.iconst 0, 1) := by decide +kernel
theorem dX9_putApart_4 : decode cX9_putApart 4 = .ok (.istore 6, 2) := by decide +kernel
theorem dX9_putApart_6 : decode cX9_putApart 6 = .ok (.iconst 0, 1) := by decide +kernel
theorem dX9_putApart_7 : decode cX9_putApart 7 = .ok (.istore 7, 2) := by decide +kernel
theorem dX9_putApart_9 : decode cX9_putApart 9 = .ok (.iconst 0, 1) := by decide +kernel
theorem dX9_putApart_10 : decode cX9_putApart 10 = .ok (.istore 8, 2) := by decide +kernel
theorem dX9_putApart_12 : decode cX9_putApart 12 = .ok (.iload 8, 2) := by decide +kernel
theorem dX9_putApart_14 : decode cX9_putApart 14 = .ok (.bipush 64, 2) := by decide +kernel
theorem dX9_putApart_16 : decode cX9_putApart 16 = .ok (.if_icmp .ge 108, 3) := by decide +kernel
theorem dX9_putApart_19 : decode cX9_putApart 19 = .ok (.iload 8, 2) := by decide +kernel
theorem dX9_putApart_21 : decode cX9_putApart 21 = .ok (.iload_n 2, 1) := by decide +kernel
theorem dX9_putApart_22 : decode cX9_putApart 22 = .ok (.if_icmp .eq 96, 3) := by decide +kernel
theorem dX9_putApart_25 : decode cX9_putApart 25 = .ok (.aload_n 1, 1) := by decide +kernel
theorem dX9_putApart_26 : decode cX9_putApart 26 = .ok (.getfield 63, 3) := by decide +kernel
theorem dX9_putApart_29 : decode cX9_putApart 29 = .ok (.iload 8, 2) := by decide +kernel
theorem dX9_putApart_31 : decode cX9_putApart 31 = .ok (.iaload, 1) := by decide +kernel
theorem dX9_putApart_32 : decode cX9_putApart 32 = .ok (.aload_n 1, 1) := by decide +kernel
theorem dX9_putApart_33 : decode cX9_putApart 33 = .ok (.getfield 63, 3) := by decide +kernel
theorem dX9_putApart_36 : decode cX9_putApart 36 = .ok (.iload_n 2, 1) := by decide +kernel
theorem dX9_putApart_37 : decode cX9_putApart 37 = .ok (.iaload, 1) := by decide +kernel
theorem dX9_putApart_38 : decode cX9_putApart 38 = .ok (.if_icmp .ne 80, 3) := by decide +kernel
theorem dX9_putApart_41 : decode cX9_putApart 41 = .ok (.aload_n 1, 1) := by decide +kernel
theorem dX9_putApart_42 : decode cX9_putApart 42 = .ok (.iload 8, 2) := by decide +kernel
theorem dX9_putApart_44 : decode cX9_putApart 44 = .ok (.iload_n 3, 1) := by decide +kernel
theorem dX9_putApart_45 : decode cX9_putApart 45 = .ok (.invokevirtual 67, 3) := by decide +kernel
theorem dX9_putApart_48 : decode cX9_putApart 48 = .ok (.ifCond .eq 70, 3) := by decide +kernel
theorem dX9_putApart_51 : decode cX9_putApart 51 = .ok (.aload_n 0, 1) := by decide +kernel
theorem dX9_putApart_52 : decode cX9_putApart 52 = .ok (.getfield 12, 3) := by decide +kernel
theorem dX9_putApart_55 : decode cX9_putApart 55 = .ok (.aload_n 1, 1) := by decide +kernel
theorem dX9_putApart_56 : decode cX9_putApart 56 = .ok (.iload 8, 2) := by decide +kernel
theorem dX9_putApart_58 : decode cX9_putApart 58 = .ok (.bipush 64, 2) := by decide +kernel
theorem dX9_putApart_60 : decode cX9_putApart 60 = .ok (.iload_n 3, 1) := by decide +kernel
theorem dX9_putApart_61 : decode cX9_putApart 61 = .ok (.imul, 1) := by decide +kernel
theorem dX9_putApart_62 : decode cX9_putApart 62 = .ok (.iadd, 1) := by decide +kernel
theorem dX9_putApart_63 : decode cX9_putApart 63 = .ok (.invokevirtual 70, 3) := by decide +kernel
theorem dX9_putApart_66 : decode cX9_putApart 66 = .ok (.ifCond .eq 52, 3) := by decide +kernel
theorem dX9_putApart_69 : decode cX9_putApart 69 = .ok (.iconst 1, 1) := by decide +kernel
theorem dX9_putApart_70 : decode cX9_putApart 70 = .ok (.istore 5, 2) := by decide +kernel
theorem dX9_putApart_72 : decode cX9_putApart 72 = .ok (.iload 6, 2) := by decide +kernel
theorem dX9_putApart_74 : decode cX9_putApart 74 = .ok (.ifCond .ne 15, 3) := by decide +kernel
theorem dX9_putApart_77 : decode cX9_putApart 77 = .ok (.iload 8, 2) := by decide +kernel
theorem dX9_putApart_79 : decode cX9_putApart 79 = .ok (.bipush 7, 2) := by decide +kernel
theorem dX9_putApart_81 : decode cX9_putApart 81 = .ok (.iand, 1) := by decide +kernel
theorem dX9_putApart_82 : decode cX9_putApart 82 = .ok (.iload_n 2, 1) := by decide +kernel
theorem dX9_putApart_83 : decode cX9_putApart 83 = .ok (.bipush 7, 2) := by decide +kernel
theorem dX9_putApart_85 : decode cX9_putApart 85 = .ok (.iand, 1) := by decide +kernel
theorem dX9_putApart_86 : decode cX9_putApart 86 = .ok (.if_icmp .ne 7, 3) := by decide +kernel
theorem dX9_putApart_89 : decode cX9_putApart 89 = .ok (.iconst 1, 1) := by decide +kernel
theorem dX9_putApart_90 : decode cX9_putApart 90 = .ok (.goto 4, 3) := by decide +kernel
theorem dX9_putApart_93 : decode cX9_putApart 93 = .ok (.iconst 0, 1) := by decide +kernel
theorem dX9_putApart_94 : decode cX9_putApart 94 = .ok (.istore 6, 2) := by decide +kernel
theorem dX9_putApart_96 : decode cX9_putApart 96 = .ok (.iload 7, 2) := by decide +kernel
theorem dX9_putApart_98 : decode cX9_putApart 98 = .ok (.ifCond .ne 13, 3) := by decide +kernel
theorem dX9_putApart_101 : decode cX9_putApart 101 = .ok (.iload 8, 2) := by decide +kernel
theorem dX9_putApart_103 : decode cX9_putApart 103 = .ok (.iconst 3, 1) := by decide +kernel
theorem dX9_putApart_104 : decode cX9_putApart 104 = .ok (.ishr, 1) := by decide +kernel
theorem dX9_putApart_105 : decode cX9_putApart 105 = .ok (.iload_n 2, 1) := by decide +kernel
theorem dX9_putApart_106 : decode cX9_putApart 106 = .ok (.iconst 3, 1) := by decide +kernel
theorem dX9_putApart_107 : decode cX9_putApart 107 = .ok (.ishr, 1) := by decide +kernel
theorem dX9_putApart_108 : decode cX9_putApart 108 = .ok (.if_icmp .ne 7, 3) := by decide +kernel
theorem dX9_putApart_111 : decode cX9_putApart 111 = .ok (.iconst 1, 1) := by decide +kernel
theorem dX9_putApart_112 : decode cX9_putApart 112 = .ok (.goto 4, 3) := by decide +kernel
theorem dX9_putApart_115 : decode cX9_putApart 115 = .ok (.iconst 0, 1) := by decide +kernel
theorem dX9_putApart_116 : decode cX9_putApart 116 = .ok (.istore 7, 2) := by decide +kernel
theorem dX9_putApart_118 : decode cX9_putApart 118 = .ok (.iinc 8 1, 3) := by decide +kernel
theorem dX9_putApart_121 : decode cX9_putApart 121 = .ok (.goto (-109), 3) := by decide +kernel
theorem dX9_putApart_124 : decode cX9_putApart 124 = .ok (.iload 5, 2) := by decide +kernel
theorem dX9_putApart_126 : decode cX9_putApart 126 = .ok (.ifCond .eq 22, 3) := by decide +kernel
theorem dX9_putApart_129 : decode cX9_putApart 129 = .ok (.iload 6, 2) := by decide +kernel
theorem dX9_putApart_131 : decode cX9_putApart 131 = .ok (.ifCond .eq 8, 3) := by decide +kernel
theorem dX9_putApart_134 : decode cX9_putApart 134 = .ok (.iload 7, 2) := by decide +kernel
theorem dX9_putApart_136 : decode cX9_putApart 136 = .ok (.ifCond .eq 12, 3) := by decide +kernel
theorem dX9_putApart_139 : decode cX9_putApart 139 = .ok (.aload 4, 2) := by decide +kernel
theorem dX9_putApart_141 : decode cX9_putApart 141 = .ok (.iload_n 2, 1) := by decide +kernel
theorem dX9_putApart_142 : decode cX9_putApart 142 = .ok (.invokestatic 53, 3) := by decide +kernel
theorem dX9_putApart_145 : decode cX9_putApart 145 = .ok (.invokevirtual 45, 3) := by decide +kernel
theorem dX9_putApart_148 : decode cX9_putApart 148 = .ok (.iload 6, 2) := by decide +kernel
theorem dX9_putApart_150 : decode cX9_putApart 150 = .ok (.ifCond .eq 12, 3) := by decide +kernel
theorem dX9_putApart_153 : decode cX9_putApart 153 = .ok (.aload 4, 2) := by decide +kernel
theorem dX9_putApart_155 : decode cX9_putApart 155 = .ok (.iload_n 2, 1) := by decide +kernel
theorem dX9_putApart_156 : decode cX9_putApart 156 = .ok (.invokestatic 56, 3) := by decide +kernel
theorem dX9_putApart_159 : decode cX9_putApart 159 = .ok (.invokevirtual 45, 3) := by decide +kernel
theorem dX9_putApart_162 : decode cX9_putApart 162 = .ok (.return_, 1) := by decide +kernel
theorem dX10_init_0 : decode cX10_init 0 = .ok (.aload_n 0, 1) := by decide +kernel
theorem dX10_init_1 : decode cX10_init 1 = .ok (.invokespecial 1, 3) := by decide +kernel
theorem dX10_init_4 : decode cX10_init 4 = .ok (.aload_n 0, 1) := by decide +kernel
theorem dX10_init_5 : decode cX10_init 5 = .ok (.new 7, 3) := by decide +kernel
theorem dX10_init_8 : decode cX10_init 8 = .ok (.dup, 1) := by decide +kernel
theorem dX10_init_9 : decode cX10_init 9 = .ok (.invokespecial 9, 3) := by decide +kernel
theorem dX10_init_12 : decode cX10_init 12 = .ok (.putfield 10, 3) := by decide +kernel
theorem dX10_init_15 : decode cX10_init 15 = .ok (.aload_n 0, 1) := by decide +kernel
theorem dX10_init_16 : decode cX10_init 16 = .ok (.new 7, 3) := by decide +kernel
theorem dX10_init_19 : decode cX10_init 19 = .ok (.dup, 1) := by decide +kernel
theorem dX10_init_20 : decode cX10_init 20 = .ok (.invokespecial 9, 3) := by decide +kernel
theorem dX10_init_23 : decode cX10_init 23 = .ok (.putfield 16, 3) := by decide +kernel
theorem dX10_init_26 : decode cX10_init 26 = .ok (.return_, 1) := by decide +kernel
theorem dX11_init_0 : decode cX11_init 0 = .ok (.aload_n 0, 1) := by decide +kernel
theorem dX11_init_1 : decode cX11_init 1 = .ok (.invokespecial 1, 3) := by decide +kernel
theorem dX11_init_4 : decode cX11_init 4 = .ok (.aload_n 0, 1) := by decide +kernel
theorem dX11_init_5 : decode cX11_init 5 = .ok (.new 7, 3) := by decide +kernel
theorem dX11_init_8 : decode cX11_init 8 = .ok (.dup, 1) := by decide +kernel
theorem dX11_init_9 : decode cX11_init 9 = .ok (.invokespecial 9, 3) := by decide +kernel
theorem dX11_init_12 : decode cX11_init 12 = .ok (.putfield 10, 3) := by decide +kernel
theorem dX11_init_15 : decode cX11_init 15 = .ok (.aload_n 0, 1) := by decide +kernel
theorem dX11_init_16 : decode cX11_init 16 = .ok (.new 7, 3) := by decide +kernel
theorem dX11_init_19 : decode cX11_init 19 = .ok (.dup, 1) := by decide +kernel
theorem dX11_init_20 : decode cX11_init 20 = .ok (.invokespecial 9, 3) := by decide +kernel
theorem dX11_init_23 : decode cX11_init 23 = .ok (.putfield 16, 3) := by decide +kernel
theorem dX11_init_26 : decode cX11_init 26 = .ok (.aload_n 0, 1) := by decide +kernel
theorem dX11_init_27 : decode cX11_init 27 = .ok (.new 19, 3) := by decide +kernel
theorem dX11_init_30 : decode cX11_init 30 = .ok (.dup, 1) := by decide +kernel
theorem dX11_init_31 : decode cX11_init 31 = .ok (.invokespecial 21, 3) := by decide +kernel
theorem dX11_init_34 : decode cX11_init 34 = .ok (.putfield 22, 3) := by decide +kernel
theorem dX11_init_37 : decode cX11_init 37 = .ok (.aload_n 0, 1) := by decide +kernel
theorem dX11_init_38 : decode cX11_init 38 = .ok (.new 26, 3) := by decide +kernel
theorem dX11_init_41 : decode cX11_init 41 = .ok (.dup, 1) := by decide +kernel
theorem dX11_init_42 : decode cX11_init 42 = .ok (.invokespecial 28, 3) := by decide +kernel
theorem dX11_init_45 : decode cX11_init 45 = .ok (.putfield 29, 3) := by decide +kernel
theorem dX11_init_48 : decode cX11_init 48 = .ok (.aload_n 0, 1) := by decide +kernel
theorem dX11_init_49 : decode cX11_init 49 = .ok (.new 33, 3) := by decide +kernel
theorem dX11_init_52 : decode cX11_init 52 = .ok (.dup, 1) := by decide +kernel
theorem dX11_init_53 : decode cX11_init 53 = .ok (.invokespecial 35, 3) := by decide +kernel
theorem dX11_init_56 : decode cX11_init 56 = .ok (.putfield 36, 3) := by decide +kernel
theorem dX11_init_59 : decode cX11_init 59 = .ok (.aload_n 0, 1) := by decide +kernel
theorem dX11_init_60 : decode cX11_init 60 = .ok (.new 40, 3) := by decide +kernel
theorem dX11_init_63 : decode cX11_init 63 = .ok (.dup, 1) := by decide +kernel
theorem dX11_init_64 : decode cX11_init 64 = .ok (.invokespecial 42, 3) := by decide +kernel
theorem dX11_init_67 : decode cX11_init 67 = .ok (.putfield 43, 3) := by decide +kernel
theorem dX11_init_70 : decode cX11_init 70 = .ok (.aload_n 0, 1) := by decide +kernel
theorem dX11_init_71 : decode cX11_init 71 = .ok (.new 47, 3) := by decide +kernel
theorem dX11_init_74 : decode cX11_init 74 = .ok (.dup, 1) := by decide +kernel
theorem dX11_init_75 : decode cX11_init 75 = .ok (.invokespecial 49, 3) := by decide +kernel
theorem dX11_init_78 : decode cX11_init 78 = .ok (.putfield 50, 3) := by decide +kernel
theorem dX11_init_81 : decode cX11_init 81 = .ok (.aload_n 0, 1) := by decide +kernel
theorem dX11_init_82 : decode cX11_init 82 = .ok (.new 54, 3) := by decide +kernel
theorem dX11_init_85 : decode cX11_init 85 = .ok (.dup, 1) := by decide +kernel
theorem dX11_init_86 : decode cX11_init 86 = .ok (.invokespecial 56, 3) := by decide +kernel
theorem dX11_init_89 : decode cX11_init 89 = .ok (.putfield 57, 3) := by decide +kernel
theorem dX11_init_92 : decode cX11_init 92 = .ok (.aload_n 0, 1) := by decide +kernel
theorem dX11_init_93 : decode cX11_init 93 = .ok (.iconst 0, 1) := by decide +kernel
theorem dX11_init_94 : decode cX11_init 94 = .ok (.putfield 61, 3) := by decide +kernel
theorem dX11_init_97 : decode cX11_init 97 = .ok (.aload_n 0, 1) := by decide +kernel
theorem dX11_init_98 : decode cX11_init 98 = .ok (.new 65, 3) := by decide +kernel
theorem dX11_init_101 : decode cX11_init 101 = .ok (.dup, 1) := by decide +kernel
theorem dX11_init_102 : decode cX11_init 102 = .ok (.invokespecial 67, 3) := by decide +kernel
theorem dX11_init_105 : decode cX11_init 105 = .ok (.putfield 68, 3) := by decide +kernel
theorem dX11_init_108 : decode cX11_init 108 = .ok (.aload_n 0, 1) := by decide +kernel
theorem dX11_init_109 : decode cX11_init 109 = .ok (.getfield 68, 3) := by decide +kernel
theorem dX11_init_112 : decode cX11_init 112 = .ok (.invokevirtual 72, 3) := by decide +kernel
theorem dX11_init_115 : decode cX11_init 115 = .ok (.return_, 1) := by decide +kernel
theorem dX11_type_0 : decode cX11_type 0 = .ok (.iload_n 3, 1) := by decide +kernel
theorem dX11_type_1 : decode cX11_type 1 = .ok (.iconst 1, 1) := by decide +kernel
theorem dX11_type_2 : decode cX11_type 2 = .ok (.if_icmp .lt 24, 3) := by decide +kernel
theorem dX11_type_5 : decode cX11_type 5 = .ok (.iload_n 3, 1) := by decide +kernel
theorem dX11_type_6 : decode cX11_type 6 = .ok (.bipush 8, 2) := by decide +kernel
theorem dX11_type_8 : decode cX11_type 8 = .ok (.if_icmp .gt 18, 3) := by decide +kernel
theorem dX11_type_11 : decode cX11_type 11 = .ok (.aload_n 0, 1) := by decide +kernel
theorem dX11_type_12 : decode cX11_type 12 = .ok (.getfield 10, 3) := by decide +kernel
theorem dX11_type_15 : decode cX11_type 15 = .ok (.invokevirtual 75, 3) := by decide +kernel
theorem dX11_type_18 : decode cX11_type 18 = .ok (.iload_n 3, 1) := by decide +kernel
theorem dX11_type_19 : decode cX11_type 19 = .ok (.iadd, 1) := by decide +kernel
theorem dX11_type_20 : decode cX11_type 20 = .ok (.sipush 2000, 3) := by decide +kernel
theorem dX11_type_23 : decode cX11_type 23 = .ok (.if_icmp .le 5, 3) := by decide +kernel
theorem dX11_type_26 : decode cX11_type 26 = .ok (.iconst 0, 1) := by decide +kernel
theorem dX11_type_27 : decode cX11_type 27 = .ok (.ireturn, 1) := by decide +kernel
theorem dX11_type_28 : decode cX11_type 28 = .ok (.iconst 0, 1) := by decide +kernel
theorem dX11_type_29 : decode cX11_type 29 = .ok (.istore 4, 2) := by decide +kernel
theorem dX11_type_31 : decode cX11_type 31 = .ok (.iload 4, 2) := by decide +kernel
theorem dX11_type_33 : decode cX11_type 33 = .ok (.iload_n 3, 1) := by decide +kernel
theorem dX11_type_34 : decode cX11_type 34 = .ok (.if_icmp .ge 40, 3) := by decide +kernel
theorem dX11_type_37 : decode cX11_type 37 = .ok (.lload_n 1, 1) := by decide +kernel
theorem dX11_type_38 : decode cX11_type 38 = .ok (.iload 4, 2) := by decide +kernel
theorem dX11_type_40 : decode cX11_type 40 = .ok (.invokestatic 79, 3) := by decide +kernel
theorem dX11_type_43 : decode cX11_type 43 = .ok (.istore 5, 2) := by decide +kernel
theorem dX11_type_45 : decode cX11_type 45 = .ok (.iload 5, 2) := by decide +kernel
theorem dX11_type_47 : decode cX11_type 47 = .ok (.bipush 10, 2) := by decide +kernel
theorem dX11_type_49 : decode cX11_type 49 = .ok (.if_icmp .eq 19, 3) := by decide +kernel
theorem dX11_type_52 : decode cX11_type 52 = .ok (.iload 5, 2) := by decide +kernel
theorem dX11_type_54 : decode cX11_type 54 = .ok (.bipush 32, 2) := by decide +kernel
theorem dX11_type_56 : decode cX11_type 56 = .ok (.if_icmp .lt 10, 3) := by decide +kernel
theorem dX11_type_59 : decode cX11_type 59 = .ok (.iload 5, 2) := by decide +kernel
theorem dX11_type_61 : decode cX11_type 61 = .ok (.bipush 126, 2) := by decide +kernel
theorem dX11_type_63 : decode cX11_type 63 = .ok (.if_icmp .le 5, 3) := by decide +kernel
theorem dX11_type_66 : decode cX11_type 66 = .ok (.iconst 0, 1) := by decide +kernel
theorem dX11_type_67 : decode cX11_type 67 = .ok (.ireturn, 1) := by decide +kernel
theorem dX11_type_68 : decode cX11_type 68 = .ok (.iinc 4 1, 3) := by decide +kernel
theorem dX11_type_71 : decode cX11_type 71 = .ok (.goto (-40), 3) := by decide +kernel
theorem dX11_type_74 : decode cX11_type 74 = .ok (.iconst 0, 1) := by decide +kernel
theorem dX11_type_75 : decode cX11_type 75 = .ok (.istore 4, 2) := by decide +kernel
theorem dX11_type_77 : decode cX11_type 77 = .ok (.iload 4, 2) := by decide +kernel
theorem dX11_type_79 : decode cX11_type 79 = .ok (.iload_n 3, 1) := by decide +kernel
theorem dX11_type_80 : decode cX11_type 80 = .ok (.if_icmp .ge 22, 3) := by decide +kernel
theorem dX11_type_83 : decode cX11_type 83 = .ok (.aload_n 0, 1) := by decide +kernel
theorem dX11_type_84 : decode cX11_type 84 = .ok (.getfield 10, 3) := by decide +kernel
theorem dX11_type_87 : decode cX11_type 87 = .ok (.lload_n 1, 1) := by decide +kernel
theorem dX11_type_88 : decode cX11_type 88 = .ok (.iload 4, 2) := by decide +kernel
theorem dX11_type_90 : decode cX11_type 90 = .ok (.invokestatic 79, 3) := by decide +kernel
theorem dX11_type_93 : decode cX11_type 93 = .ok (.invokevirtual 83, 3) := by decide +kernel
theorem dX11_type_96 : decode cX11_type 96 = .ok (.iinc 4 1, 3) := by decide +kernel
theorem dX11_type_99 : decode cX11_type 99 = .ok (.goto (-22), 3) := by decide +kernel
theorem dX11_type_102 : decode cX11_type 102 = .ok (.iconst 1, 1) := by decide +kernel
theorem dX11_type_103 : decode cX11_type 103 = .ok (.ireturn, 1) := by decide +kernel
theorem dX11_cut_0 : decode cX11_cut 0 = .ok (.iload_n 1, 1) := by decide +kernel
theorem dX11_cut_1 : decode cX11_cut 1 = .ok (.ifCond .lt 14, 3) := by decide +kernel
theorem dX11_cut_4 : decode cX11_cut 4 = .ok (.iload_n 1, 1) := by decide +kernel
theorem dX11_cut_5 : decode cX11_cut 5 = .ok (.aload_n 0, 1) := by decide +kernel
theorem dX11_cut_6 : decode cX11_cut 6 = .ok (.getfield 10, 3) := by decide +kernel
theorem dX11_cut_9 : decode cX11_cut 9 = .ok (.invokevirtual 75, 3) := by decide +kernel
theorem dX11_cut_12 : decode cX11_cut 12 = .ok (.if_icmp .le 5, 3) := by decide +kernel
theorem dX11_cut_15 : decode cX11_cut 15 = .ok (.iconst 0, 1) := by decide +kernel
theorem dX11_cut_16 : decode cX11_cut 16 = .ok (.ireturn, 1) := by decide +kernel
theorem dX11_cut_17 : decode cX11_cut 17 = .ok (.aload_n 0, 1) := by decide +kernel
theorem dX11_cut_18 : decode cX11_cut 18 = .ok (.getfield 10, 3) := by decide +kernel
theorem dX11_cut_21 : decode cX11_cut 21 = .ok (.iload_n 1, 1) := by decide +kernel
theorem dX11_cut_22 : decode cX11_cut 22 = .ok (.invokevirtual 87, 3) := by decide +kernel
theorem dX11_cut_25 : decode cX11_cut 25 = .ok (.iconst 1, 1) := by decide +kernel
theorem dX11_cut_26 : decode cX11_cut 26 = .ok (.ireturn, 1) := by decide +kernel
theorem dX11_read_0 : decode cX11_read 0 = .ok (.aload_n 0, 1) := by decide +kernel
theorem dX11_read_1 : decode cX11_read 1 = .ok (.getfield 43, 3) := by decide +kernel
theorem dX11_read_4 : decode cX11_read 4 = .ok (.aload_n 0, 1) := by decide +kernel
theorem dX11_read_5 : decode cX11_read 5 = .ok (.getfield 10, 3) := by decide +kernel
theorem dX11_read_8 : decode cX11_read 8 = .ok (.invokevirtual 91, 3) := by decide +kernel
theorem dX11_read_11 : decode cX11_read 11 = .ok (.aload_n 0, 1) := by decide +kernel
theorem dX11_read_12 : decode cX11_read 12 = .ok (.getfield 43, 3) := by decide +kernel
theorem dX11_read_15 : decode cX11_read 15 = .ok (.invokevirtual 95, 3) := by decide +kernel
theorem dX11_read_18 : decode cX11_read 18 = .ok (.ifCond .eq 23, 3) := by decide +kernel
theorem dX11_read_21 : decode cX11_read 21 = .ok (.aload_n 0, 1) := by decide +kernel
theorem dX11_read_22 : decode cX11_read 22 = .ok (.getfield 43, 3) := by decide +kernel
theorem dX11_read_25 : decode cX11_read 25 = .ok (.invokevirtual 99, 3) := by decide +kernel
theorem dX11_read_28 : decode cX11_read 28 = .ok (.ifCond .eq 13, 3) := by decide +kernel
theorem dX11_read_31 : decode cX11_read 31 = .ok (.aload_n 0, 1) := by decide +kernel
theorem dX11_read_32 : decode cX11_read 32 = .ok (.getfield 43, 3) := by decide +kernel
theorem dX11_read_35 : decode cX11_read 35 = .ok (.invokevirtual 102, 3) := by decide +kernel
theorem dX11_read_38 : decode cX11_read 38 = .ok (.ifCond .ne 11, 3) := by decide +kernel
theorem dX11_read_41 : decode cX11_read 41 = .ok (.aload_n 0, 1) := by decide +kernel
theorem dX11_read_42 : decode cX11_read 42 = .ok (.getfield 43, 3) := by decide +kernel
theorem dX11_read_45 : decode cX11_read 45 = .ok (.invokevirtual 105, 3) := by decide +kernel
theorem dX11_read_48 : decode cX11_read 48 = .ok (.ireturn, 1) := by decide +kernel
theorem dX11_read_49 : decode cX11_read 49 = .ok (.aload_n 0, 1) := by decide +kernel
theorem dX11_read_50 : decode cX11_read 50 = .ok (.aload_n 0, 1) := by decide +kernel
theorem dX11_read_51 : decode cX11_read 51 = .ok (.getfield 43, 3) := by decide +kernel
theorem dX11_read_54 : decode cX11_read 54 = .ok (.aload_n 0, 1) := by decide +kernel
theorem dX11_read_55 : decode cX11_read 55 = .ok (.getfield 57, 3) := by decide +kernel
theorem dX11_read_58 : decode cX11_read 58 = .ok (.invokevirtual 108, 3) := by decide +kernel
theorem dX11_read_61 : decode cX11_read 61 = .ok (.putfield 57, 3) := by decide +kernel
theorem dX11_read_64 : decode cX11_read 64 = .ok (.aload_n 0, 1) := by decide +kernel
theorem dX11_read_65 : decode cX11_read 65 = .ok (.getfield 10, 3) := by decide +kernel
theorem dX11_read_68 : decode cX11_read 68 = .ok (.iconst 0, 1) := by decide +kernel
theorem dX11_read_69 : decode cX11_read 69 = .ok (.invokevirtual 87, 3) := by decide +kernel
theorem dX11_read_72 : decode cX11_read 72 = .ok (.aload_n 0, 1) := by decide +kernel
theorem dX11_read_73 : decode cX11_read 73 = .ok (.iconst 0, 1) := by decide +kernel
theorem dX11_read_74 : decode cX11_read 74 = .ok (.putfield 61, 3) := by decide +kernel
theorem dX11_read_77 : decode cX11_read 77 = .ok (.aload_n 0, 1) := by decide +kernel
theorem dX11_read_78 : decode cX11_read 78 = .ok (.getfield 57, 3) := by decide +kernel
theorem dX11_read_81 : decode cX11_read 81 = .ok (.iconst 0, 1) := by decide +kernel
theorem dX11_read_82 : decode cX11_read 82 = .ok (.aload_n 0, 1) := by decide +kernel
theorem dX11_read_83 : decode cX11_read 83 = .ok (.getfield 68, 3) := by decide +kernel
theorem dX11_read_86 : decode cX11_read 86 = .ok (.invokevirtual 112, 3) := by decide +kernel
theorem dX11_read_89 : decode cX11_read 89 = .ok (.iconst 0, 1) := by decide +kernel
theorem dX11_read_90 : decode cX11_read 90 = .ok (.ireturn, 1) := by decide +kernel
theorem dX11_find_0 : decode cX11_find 0 = .ok (.aload_n 0, 1) := by decide +kernel
theorem dX11_find_1 : decode cX11_find 1 = .ok (.getfield 29, 3) := by decide +kernel
theorem dX11_find_4 : decode cX11_find 4 = .ok (.aload_n 0, 1) := by decide +kernel
theorem dX11_find_5 : decode cX11_find 5 = .ok (.getfield 68, 3) := by decide +kernel
theorem dX11_find_8 : decode cX11_find 8 = .ok (.aload_n 0, 1) := by decide +kernel
theorem dX11_find_9 : decode cX11_find 9 = .ok (.getfield 10, 3) := by decide +kernel
theorem dX11_find_12 : decode cX11_find 12 = .ok (.iconst 0, 1) := by decide +kernel
theorem dX11_find_13 : decode cX11_find 13 = .ok (.aload_n 0, 1) := by decide +kernel
theorem dX11_find_14 : decode cX11_find 14 = .ok (.getfield 10, 3) := by decide +kernel
theorem dX11_find_17 : decode cX11_find 17 = .ok (.invokevirtual 75, 3) := by decide +kernel
theorem dX11_find_20 : decode cX11_find 20 = .ok (.invokevirtual 116, 3) := by decide +kernel
theorem dX11_find_23 : decode cX11_find 23 = .ok (.ireturn, 1) := by decide +kernel
theorem dX11_write_0 : decode cX11_write 0 = .ok (.aload_n 0, 1) := by decide +kernel
theorem dX11_write_1 : decode cX11_write 1 = .ok (.getfield 16, 3) := by decide +kernel
theorem dX11_write_4 : decode cX11_write 4 = .ok (.iconst 0, 1) := by decide +kernel
theorem dX11_write_5 : decode cX11_write 5 = .ok (.invokevirtual 87, 3) := by decide +kernel
theorem dX11_write_8 : decode cX11_write 8 = .ok (.aload_n 0, 1) := by decide +kernel
theorem dX11_write_9 : decode cX11_write 9 = .ok (.getfield 50, 3) := by decide +kernel
theorem dX11_write_12 : decode cX11_write 12 = .ok (.aload_n 0, 1) := by decide +kernel
theorem dX11_write_13 : decode cX11_write 13 = .ok (.getfield 57, 3) := by decide +kernel
theorem dX11_write_16 : decode cX11_write 16 = .ok (.aload_n 0, 1) := by decide +kernel
theorem dX11_write_17 : decode cX11_write 17 = .ok (.getfield 16, 3) := by decide +kernel
theorem dX11_write_20 : decode cX11_write 20 = .ok (.invokevirtual 120, 3) := by decide +kernel
theorem dX11_write_23 : decode cX11_write 23 = .ok (.aload_n 0, 1) := by decide +kernel
theorem dX11_write_24 : decode cX11_write 24 = .ok (.getfield 50, 3) := by decide +kernel
theorem dX11_write_27 : decode cX11_write 27 = .ok (.aload_n 0, 1) := by decide +kernel
theorem dX11_write_28 : decode cX11_write 28 = .ok (.getfield 57, 3) := by decide +kernel
theorem dX11_write_31 : decode cX11_write 31 = .ok (.aload_n 0, 1) := by decide +kernel
theorem dX11_write_32 : decode cX11_write 32 = .ok (.getfield 57, 3) := by decide +kernel
theorem dX11_write_35 : decode cX11_write 35 = .ok (.iconst 0, 1) := by decide +kernel
theorem dX11_write_36 : decode cX11_write 36 = .ok (.invokevirtual 124, 3) := by decide +kernel
theorem dX11_write_39 : decode cX11_write 39 = .ok (.getfield 128, 3) := by decide +kernel
theorem dX11_write_42 : decode cX11_write 42 = .ok (.iconst 0, 1) := by decide +kernel
theorem dX11_write_43 : decode cX11_write 43 = .ok (.aload_n 0, 1) := by decide +kernel
theorem dX11_write_44 : decode cX11_write 44 = .ok (.getfield 16, 3) := by decide +kernel
theorem dX11_write_47 : decode cX11_write 47 = .ok (.invokevirtual 133, 3) := by decide +kernel
theorem dX11_write_50 : decode cX11_write 50 = .ok (.aload_n 0, 1) := by decide +kernel
theorem dX11_write_51 : decode cX11_write 51 = .ok (.getfield 50, 3) := by decide +kernel
theorem dX11_write_54 : decode cX11_write 54 = .ok (.aload_n 0, 1) := by decide +kernel
theorem dX11_write_55 : decode cX11_write 55 = .ok (.getfield 57, 3) := by decide +kernel
theorem dX11_write_58 : decode cX11_write 58 = .ok (.aload_n 0, 1) := by decide +kernel
theorem dX11_write_59 : decode cX11_write 59 = .ok (.getfield 16, 3) := by decide +kernel
theorem dX11_write_62 : decode cX11_write 62 = .ok (.invokevirtual 137, 3) := by decide +kernel
theorem dX11_write_65 : decode cX11_write 65 = .ok (.aload_n 0, 1) := by decide +kernel
theorem dX11_write_66 : decode cX11_write 66 = .ok (.getfield 16, 3) := by decide +kernel
theorem dX11_write_69 : decode cX11_write 69 = .ok (.invokevirtual 75, 3) := by decide +kernel
theorem dX11_write_72 : decode cX11_write 72 = .ok (.ireturn, 1) := by decide +kernel
theorem dX11_signs_0 : decode cX11_signs 0 = .ok (.aload_n 0, 1) := by decide +kernel
theorem dX11_signs_1 : decode cX11_signs 1 = .ok (.getfield 22, 3) := by decide +kernel
theorem dX11_signs_4 : decode cX11_signs 4 = .ok (.aload_n 0, 1) := by decide +kernel
theorem dX11_signs_5 : decode cX11_signs 5 = .ok (.getfield 68, 3) := by decide +kernel
theorem dX11_signs_8 : decode cX11_signs 8 = .ok (.iload_n 1, 1) := by decide +kernel
theorem dX11_signs_9 : decode cX11_signs 9 = .ok (.invokevirtual 140, 3) := by decide +kernel
theorem dX11_signs_12 : decode cX11_signs 12 = .ok (.ifCond .ne 13, 3) := by decide +kernel
theorem dX11_signs_15 : decode cX11_signs 15 = .ok (.new 144, 3) := by decide +kernel
theorem dX11_signs_18 : decode cX11_signs 18 = .ok (.dup, 1) := by decide +kernel
theorem dX11_signs_19 : decode cX11_signs 19 = .ok (.ldc 146, 2) := by decide +kernel
theorem dX11_signs_21 : decode cX11_signs 21 = .ok (.invokespecial 148, 3) := by decide +kernel
theorem dX11_signs_24 : decode cX11_signs 24 = .ok (.athrow, 1) := by decide +kernel
theorem dX11_signs_25 : decode cX11_signs 25 = .ok (.aload_n 0, 1) := by decide +kernel
theorem dX11_signs_26 : decode cX11_signs 26 = .ok (.getfield 16, 3) := by decide +kernel
theorem dX11_signs_29 : decode cX11_signs 29 = .ok (.iconst 0, 1) := by decide +kernel
theorem dX11_signs_30 : decode cX11_signs 30 = .ok (.invokevirtual 87, 3) := by decide +kernel
theorem dX11_signs_33 : decode cX11_signs 33 = .ok (.aload_n 0, 1) := by decide +kernel
theorem dX11_signs_34 : decode cX11_signs 34 = .ok (.getfield 36, 3) := by decide +kernel
theorem dX11_signs_37 : decode cX11_signs 37 = .ok (.aload_n 0, 1) := by decide +kernel
theorem dX11_signs_38 : decode cX11_signs 38 = .ok (.getfield 68, 3) := by decide +kernel
theorem dX11_signs_41 : decode cX11_signs 41 = .ok (.iload_n 1, 1) := by decide +kernel
theorem dX11_signs_42 : decode cX11_signs 42 = .ok (.aload_n 0, 1) := by decide +kernel
theorem dX11_signs_43 : decode cX11_signs 43 = .ok (.getfield 16, 3) := by decide +kernel
theorem dX11_signs_46 : decode cX11_signs 46 = .ok (.invokevirtual 151, 3) := by decide +kernel
theorem dX11_signs_49 : decode cX11_signs 49 = .ok (.aload_n 0, 1) := by decide +kernel
theorem dX11_signs_50 : decode cX11_signs 50 = .ok (.getfield 16, 3) := by decide +kernel
theorem dX11_signs_53 : decode cX11_signs 53 = .ok (.invokevirtual 75, 3) := by decide +kernel
theorem dX11_signs_56 : decode cX11_signs 56 = .ok (.ireturn, 1) := by decide +kernel
theorem dX11_out_0 : decode cX11_out 0 = .ok (.aload_n 0, 1) := by decide +kernel
theorem dX11_out_1 : decode cX11_out 1 = .ok (.getfield 16, 3) := by decide +kernel
theorem dX11_out_4 : decode cX11_out 4 = .ok (.iload_n 1, 1) := by decide +kernel
theorem dX11_out_5 : decode cX11_out 5 = .ok (.invokevirtual 155, 3) := by decide +kernel
theorem dX11_out_8 : decode cX11_out 8 = .ok (.ireturn, 1) := by decide +kernel
theorem dX11_nodes_0 : decode cX11_nodes 0 = .ok (.aload_n 0, 1) := by decide +kernel
theorem dX11_nodes_1 : decode cX11_nodes 1 = .ok (.getfield 57, 3) := by decide +kernel
theorem dX11_nodes_4 : decode cX11_nodes 4 = .ok (.getfield 158, 3) := by decide +kernel
theorem dX11_nodes_7 : decode cX11_nodes 7 = .ok (.ireturn, 1) := by decide +kernel
theorem dX11_node_0 : decode cX11_node 0 = .ok (.aload_n 0, 1) := by decide +kernel
theorem dX11_node_1 : decode cX11_node 1 = .ok (.getfield 57, 3) := by decide +kernel
theorem dX11_node_4 : decode cX11_node 4 = .ok (.iload_n 1, 1) := by decide +kernel
theorem dX11_node_5 : decode cX11_node 5 = .ok (.invokevirtual 161, 3) := by decide +kernel
theorem dX11_node_8 : decode cX11_node 8 = .ok (.ifCond .ne 13, 3) := by decide +kernel
theorem dX11_node_11 : decode cX11_node 11 = .ok (.new 165, 3) := by decide +kernel
theorem dX11_node_14 : decode cX11_node 14 = .ok (.dup, 1) := by decide +kernel
theorem dX11_node_15 : decode cX11_node 15 = .ok (.ldc 167, 2) := by decide +kernel
theorem dX11_node_17 : decode cX11_node 17 = .ok (.invokespecial 169, 3) := by decide +kernel
theorem dX11_node_20 : decode cX11_node 20 = .ok (.athrow, 1) := by decide +kernel
theorem dX11_node_21 : decode cX11_node 21 = .ok (.aload_n 0, 1) := by decide +kernel
theorem dX11_node_22 : decode cX11_node 22 = .ok (.getfield 57, 3) := by decide +kernel
theorem dX11_node_25 : decode cX11_node 25 = .ok (.iload_n 1, 1) := by decide +kernel
theorem dX11_node_26 : decode cX11_node 26 = .ok (.invokevirtual 124, 3) := by decide +kernel
theorem dX11_node_29 : decode cX11_node 29 = .ok (.astore_n 3, 1) := by decide +kernel
theorem dX11_node_30 : decode cX11_node 30 = .ok (.iload_n 2, 1) := by decide +kernel
theorem dX11_node_31 : decode cX11_node 31 = .ok (.tableswitch 70 0 5 #[37, 42, 47, 52, 57, 62], 37) := by decide +kernel
theorem dX11_node_68 : decode cX11_node 68 = .ok (.aload_n 3, 1) := by decide +kernel
theorem dX11_node_69 : decode cX11_node 69 = .ok (.getfield 170, 3) := by decide +kernel
theorem dX11_node_72 : decode cX11_node 72 = .ok (.ireturn, 1) := by decide +kernel
theorem dX11_node_73 : decode cX11_node 73 = .ok (.aload_n 3, 1) := by decide +kernel
theorem dX11_node_74 : decode cX11_node 74 = .ok (.getfield 173, 3) := by decide +kernel
theorem dX11_node_77 : decode cX11_node 77 = .ok (.ireturn, 1) := by decide +kernel
theorem dX11_node_78 : decode cX11_node 78 = .ok (.aload_n 3, 1) := by decide +kernel
theorem dX11_node_79 : decode cX11_node 79 = .ok (.getfield 128, 3) := by decide +kernel
theorem dX11_node_82 : decode cX11_node 82 = .ok (.ireturn, 1) := by decide +kernel
theorem dX11_node_83 : decode cX11_node 83 = .ok (.aload_n 3, 1) := by decide +kernel
theorem dX11_node_84 : decode cX11_node 84 = .ok (.getfield 176, 3) := by decide +kernel
theorem dX11_node_87 : decode cX11_node 87 = .ok (.ireturn, 1) := by decide +kernel
theorem dX11_node_88 : decode cX11_node 88 = .ok (.aload_n 3, 1) := by decide +kernel
theorem dX11_node_89 : decode cX11_node 89 = .ok (.getfield 179, 3) := by decide +kernel
theorem dX11_node_92 : decode cX11_node 92 = .ok (.ireturn, 1) := by decide +kernel
theorem dX11_node_93 : decode cX11_node 93 = .ok (.aload_n 3, 1) := by decide +kernel
theorem dX11_node_94 : decode cX11_node 94 = .ok (.getfield 182, 3) := by decide +kernel
theorem dX11_node_97 : decode cX11_node 97 = .ok (.invokevirtual 75, 3) := by decide +kernel
theorem dX11_node_100 : decode cX11_node 100 = .ok (.ireturn, 1) := by decide +kernel
theorem dX11_node_101 : decode cX11_node 101 = .ok (.new 165, 3) := by decide +kernel
theorem dX11_node_104 : decode cX11_node 104 = .ok (.dup, 1) := by decide +kernel
theorem dX11_node_105 : decode cX11_node 105 = .ok (.ldc 185, 2) := by decide +kernel
theorem dX11_node_107 : decode cX11_node 107 = .ok (.invokespecial 169, 3) := by decide +kernel
theorem dX11_node_110 : decode cX11_node 110 = .ok (.athrow, 1) := by decide +kernel
theorem dX11_mark_0 : decode cX11_mark 0 = .ok (.aload_n 0, 1) := by decide +kernel
theorem dX11_mark_1 : decode cX11_mark 1 = .ok (.getfield 57, 3) := by decide +kernel
theorem dX11_mark_4 : decode cX11_mark 4 = .ok (.iload_n 1, 1) := by decide +kernel
theorem dX11_mark_5 : decode cX11_mark 5 = .ok (.invokevirtual 161, 3) := by decide +kernel
theorem dX11_mark_8 : decode cX11_mark 8 = .ok (.ifCond .eq 22, 3) := by decide +kernel
theorem dX11_mark_11 : decode cX11_mark 11 = .ok (.iload_n 2, 1) := by decide +kernel
theorem dX11_mark_12 : decode cX11_mark 12 = .ok (.ifCond .lt 18, 3) := by decide +kernel
theorem dX11_mark_15 : decode cX11_mark 15 = .ok (.iload_n 2, 1) := by decide +kernel
theorem dX11_mark_16 : decode cX11_mark 16 = .ok (.aload_n 0, 1) := by decide +kernel
theorem dX11_mark_17 : decode cX11_mark 17 = .ok (.getfield 57, 3) := by decide +kernel
theorem dX11_mark_20 : decode cX11_mark 20 = .ok (.iload_n 1, 1) := by decide +kernel
theorem dX11_mark_21 : decode cX11_mark 21 = .ok (.invokevirtual 124, 3) := by decide +kernel
theorem dX11_mark_24 : decode cX11_mark 24 = .ok (.getfield 179, 3) := by decide +kernel
theorem dX11_mark_27 : decode cX11_mark 27 = .ok (.if_icmp .lt 13, 3) := by decide +kernel
theorem dX11_mark_30 : decode cX11_mark 30 = .ok (.new 165, 3) := by decide +kernel
theorem dX11_mark_33 : decode cX11_mark 33 = .ok (.dup, 1) := by decide +kernel
theorem dX11_mark_34 : decode cX11_mark 34 = .ok (.ldc 187, 2) := by decide +kernel
theorem dX11_mark_36 : decode cX11_mark 36 = .ok (.invokespecial 169, 3) := by decide +kernel
theorem dX11_mark_39 : decode cX11_mark 39 = .ok (.athrow, 1) := by decide +kernel
theorem dX11_mark_40 : decode cX11_mark 40 = .ok (.aload_n 0, 1) := by decide +kernel
theorem dX11_mark_41 : decode cX11_mark 41 = .ok (.getfield 57, 3) := by decide +kernel
theorem dX11_mark_44 : decode cX11_mark 44 = .ok (.iload_n 1, 1) := by decide +kernel
theorem dX11_mark_45 : decode cX11_mark 45 = .ok (.invokevirtual 124, 3) := by decide +kernel
theorem dX11_mark_48 : decode cX11_mark 48 = .ok (.iload_n 2, 1) := by decide +kernel
theorem dX11_mark_49 : decode cX11_mark 49 = .ok (.invokevirtual 189, 3) := by decide +kernel
theorem dX11_mark_52 : decode cX11_mark 52 = .ok (.ireturn, 1) := by decide +kernel
theorem dX11_remark_0 : decode cX11_remark 0 = .ok (.aload_n 0, 1) := by decide +kernel
theorem dX11_remark_1 : decode cX11_remark 1 = .ok (.getfield 57, 3) := by decide +kernel
theorem dX11_remark_4 : decode cX11_remark 4 = .ok (.iload_n 1, 1) := by decide +kernel
theorem dX11_remark_5 : decode cX11_remark 5 = .ok (.invokevirtual 161, 3) := by decide +kernel
theorem dX11_remark_8 : decode cX11_remark 8 = .ok (.ifCond .eq 25, 3) := by decide +kernel
theorem dX11_remark_11 : decode cX11_remark 11 = .ok (.iload_n 2, 1) := by decide +kernel
theorem dX11_remark_12 : decode cX11_remark 12 = .ok (.ifCond .lt 21, 3) := by decide +kernel
theorem dX11_remark_15 : decode cX11_remark 15 = .ok (.iload_n 2, 1) := by decide +kernel
theorem dX11_remark_16 : decode cX11_remark 16 = .ok (.aload_n 0, 1) := by decide +kernel
theorem dX11_remark_17 : decode cX11_remark 17 = .ok (.getfield 57, 3) := by decide +kernel
theorem dX11_remark_20 : decode cX11_remark 20 = .ok (.iload_n 1, 1) := by decide +kernel
theorem dX11_remark_21 : decode cX11_remark 21 = .ok (.invokevirtual 124, 3) := by decide +kernel
theorem dX11_remark_24 : decode cX11_remark 24 = .ok (.getfield 182, 3) := by decide +kernel
theorem dX11_remark_27 : decode cX11_remark 27 = .ok (.invokevirtual 75, 3) := by decide +kernel
theorem dX11_remark_30 : decode cX11_remark 30 = .ok (.if_icmp .lt 13, 3) := by decide +kernel
theorem dX11_remark_33 : decode cX11_remark 33 = .ok (.new 165, 3) := by decide +kernel
theorem dX11_remark_36 : decode cX11_remark 36 = .ok (.dup, 1) := by decide +kernel
theorem dX11_remark_37 : decode cX11_remark 37 = .ok (.ldc 193, 2) := by decide +kernel
theorem dX11_remark_39 : decode cX11_remark 39 = .ok (.invokespecial 169, 3) := by decide +kernel
theorem dX11_remark_42 : decode cX11_remark 42 = .ok (.athrow, 1) := by decide +kernel
theorem dX11_remark_43 : decode cX11_remark 43 = .ok (.aload_n 0, 1) := by decide +kernel
theorem dX11_remark_44 : decode cX11_remark 44 = .ok (.getfield 57, 3) := by decide +kernel
theorem dX11_remark_47 : decode cX11_remark 47 = .ok (.iload_n 1, 1) := by decide +kernel
theorem dX11_remark_48 : decode cX11_remark 48 = .ok (.invokevirtual 124, 3) := by decide +kernel
theorem dX11_remark_51 : decode cX11_remark 51 = .ok (.getfield 182, 3) := by decide +kernel
theorem dX11_remark_54 : decode cX11_remark 54 = .ok (.iload_n 2, 1) := by decide +kernel
theorem dX11_remark_55 : decode cX11_remark 55 = .ok (.invokevirtual 155, 3) := by decide +kernel
theorem dX11_remark_58 : decode cX11_remark 58 = .ok (.ireturn, 1) := by decide +kernel
theorem dX11_here_0 : decode cX11_here 0 = .ok (.aload_n 0, 1) := by decide +kernel
theorem dX11_here_1 : decode cX11_here 1 = .ok (.getfield 61, 3) := by decide +kernel
theorem dX11_here_4 : decode cX11_here 4 = .ok (.ireturn, 1) := by decide +kernel
theorem dX11_go_0 : decode cX11_go 0 = .ok (.aload_n 0, 1) := by decide +kernel
theorem dX11_go_1 : decode cX11_go 1 = .ok (.getfield 57, 3) := by decide +kernel
theorem dX11_go_4 : decode cX11_go 4 = .ok (.iload_n 1, 1) := by decide +kernel
theorem dX11_go_5 : decode cX11_go 5 = .ok (.invokevirtual 161, 3) := by decide +kernel
theorem dX11_go_8 : decode cX11_go 8 = .ok (.ifCond .ne 13, 3) := by decide +kernel
theorem dX11_go_11 : decode cX11_go 11 = .ok (.new 165, 3) := by decide +kernel
theorem dX11_go_14 : decode cX11_go 14 = .ok (.dup, 1) := by decide +kernel
theorem dX11_go_15 : decode cX11_go 15 = .ok (.ldc 167, 2) := by decide +kernel
theorem dX11_go_17 : decode cX11_go 17 = .ok (.invokespecial 169, 3) := by decide +kernel
theorem dX11_go_20 : decode cX11_go 20 = .ok (.athrow, 1) := by decide +kernel
theorem dX11_go_21 : decode cX11_go 21 = .ok (.aload_n 0, 1) := by decide +kernel
theorem dX11_go_22 : decode cX11_go 22 = .ok (.iload_n 1, 1) := by decide +kernel
theorem dX11_go_23 : decode cX11_go 23 = .ok (.putfield 61, 3) := by decide +kernel
theorem dX11_go_26 : decode cX11_go 26 = .ok (.aload_n 0, 1) := by decide +kernel
theorem dX11_go_27 : decode cX11_go 27 = .ok (.getfield 57, 3) := by decide +kernel
theorem dX11_go_30 : decode cX11_go 30 = .ok (.iload_n 1, 1) := by decide +kernel
theorem dX11_go_31 : decode cX11_go 31 = .ok (.aload_n 0, 1) := by decide +kernel
theorem dX11_go_32 : decode cX11_go 32 = .ok (.getfield 68, 3) := by decide +kernel
theorem dX11_go_35 : decode cX11_go 35 = .ok (.invokevirtual 112, 3) := by decide +kernel
theorem dX11_go_38 : decode cX11_go 38 = .ok (.return_, 1) := by decide +kernel
theorem dX11_man_0 : decode cX11_man 0 = .ok (.iload_n 1, 1) := by decide +kernel
theorem dX11_man_1 : decode cX11_man 1 = .ok (.ifCond .lt 9, 3) := by decide +kernel
theorem dX11_man_4 : decode cX11_man 4 = .ok (.iload_n 1, 1) := by decide +kernel
theorem dX11_man_5 : decode cX11_man 5 = .ok (.bipush 64, 2) := by decide +kernel
theorem dX11_man_7 : decode cX11_man 7 = .ok (.if_icmp .lt 13, 3) := by decide +kernel
theorem dX11_man_10 : decode cX11_man 10 = .ok (.new 165, 3) := by decide +kernel
theorem dX11_man_13 : decode cX11_man 13 = .ok (.dup, 1) := by decide +kernel
theorem dX11_man_14 : decode cX11_man 14 = .ok (.ldc 195, 2) := by decide +kernel
theorem dX11_man_16 : decode cX11_man 16 = .ok (.invokespecial 169, 3) := by decide +kernel
theorem dX11_man_19 : decode cX11_man 19 = .ok (.athrow, 1) := by decide +kernel
theorem dX11_man_20 : decode cX11_man 20 = .ok (.aload_n 0, 1) := by decide +kernel
theorem dX11_man_21 : decode cX11_man 21 = .ok (.getfield 68, 3) := by decide +kernel
theorem dX11_man_24 : decode cX11_man 24 = .ok (.getfield 197, 3) := by decide +kernel
theorem dX11_man_27 : decode cX11_man 27 = .ok (.iload_n 1, 1) := by decide +kernel
theorem dX11_man_28 : decode cX11_man 28 = .ok (.iaload, 1) := by decide +kernel
theorem dX11_man_29 : decode cX11_man 29 = .ok (.ireturn, 1) := by decide +kernel
theorem dX11_move_0 : decode cX11_move 0 = .ok (.aload_n 0, 1) := by decide +kernel
theorem dX11_move_1 : decode cX11_move 1 = .ok (.getfield 22, 3) := by decide +kernel
theorem dX11_move_4 : decode cX11_move 4 = .ok (.aload_n 0, 1) := by decide +kernel
theorem dX11_move_5 : decode cX11_move 5 = .ok (.getfield 68, 3) := by decide +kernel
theorem dX11_move_8 : decode cX11_move 8 = .ok (.iload_n 1, 1) := by decide +kernel
theorem dX11_move_9 : decode cX11_move 9 = .ok (.invokevirtual 201, 3) := by decide +kernel
theorem dX11_move_12 : decode cX11_move 12 = .ok (.ireturn, 1) := by decide +kernel
theorem dX11_add_0 : decode cX11_add 0 = .ok (.aload_n 0, 1) := by decide +kernel
theorem dX11_add_1 : decode cX11_add 1 = .ok (.getfield 22, 3) := by decide +kernel
theorem dX11_add_4 : decode cX11_add 4 = .ok (.aload_n 0, 1) := by decide +kernel
theorem dX11_add_5 : decode cX11_add 5 = .ok (.getfield 68, 3) := by decide +kernel
theorem dX11_add_8 : decode cX11_add 8 = .ok (.iload_n 1, 1) := by decide +kernel
theorem dX11_add_9 : decode cX11_add 9 = .ok (.invokevirtual 140, 3) := by decide +kernel
theorem dX11_add_12 : decode cX11_add 12 = .ok (.ifCond .ne 13, 3) := by decide +kernel
theorem dX11_add_15 : decode cX11_add 15 = .ok (.new 144, 3) := by decide +kernel
theorem dX11_add_18 : decode cX11_add 18 = .ok (.dup, 1) := by decide +kernel
theorem dX11_add_19 : decode cX11_add 19 = .ok (.ldc 146, 2) := by decide +kernel
theorem dX11_add_21 : decode cX11_add 21 = .ok (.invokespecial 148, 3) := by decide +kernel
theorem dX11_add_24 : decode cX11_add 24 = .ok (.athrow, 1) := by decide +kernel
theorem dX11_add_25 : decode cX11_add 25 = .ok (.aload_n 0, 1) := by decide +kernel
theorem dX11_add_26 : decode cX11_add 26 = .ok (.getfield 57, 3) := by decide +kernel
theorem dX11_add_29 : decode cX11_add 29 = .ok (.aload_n 0, 1) := by decide +kernel
theorem dX11_add_30 : decode cX11_add 30 = .ok (.getfield 61, 3) := by decide +kernel
theorem dX11_add_33 : decode cX11_add 33 = .ok (.iload_n 1, 1) := by decide +kernel
theorem dX11_add_34 : decode cX11_add 34 = .ok (.invokevirtual 205, 3) := by decide +kernel
theorem dX11_add_37 : decode cX11_add 37 = .ok (.istore_n 2, 1) := by decide +kernel
theorem dX11_add_38 : decode cX11_add 38 = .ok (.iload_n 2, 1) := by decide +kernel
theorem dX11_add_39 : decode cX11_add 39 = .ok (.iconst (-1), 1) := by decide +kernel
theorem dX11_add_40 : decode cX11_add 40 = .ok (.if_icmp .ne 55, 3) := by decide +kernel
theorem dX11_add_43 : decode cX11_add 43 = .ok (.aload_n 0, 1) := by decide +kernel
theorem dX11_add_44 : decode cX11_add 44 = .ok (.getfield 57, 3) := by decide +kernel
theorem dX11_add_47 : decode cX11_add 47 = .ok (.getfield 158, 3) := by decide +kernel
theorem dX11_add_50 : decode cX11_add 50 = .ok (.sipush 300, 3) := by decide +kernel
theorem dX11_add_53 : decode cX11_add 53 = .ok (.if_icmp .ge 19, 3) := by decide +kernel
theorem dX11_add_56 : decode cX11_add 56 = .ok (.aload_n 0, 1) := by decide +kernel
theorem dX11_add_57 : decode cX11_add 57 = .ok (.getfield 57, 3) := by decide +kernel
theorem dX11_add_60 : decode cX11_add 60 = .ok (.aload_n 0, 1) := by decide +kernel
theorem dX11_add_61 : decode cX11_add 61 = .ok (.getfield 61, 3) := by decide +kernel
theorem dX11_add_64 : decode cX11_add 64 = .ok (.invokevirtual 209, 3) := by decide +kernel
theorem dX11_add_67 : decode cX11_add 67 = .ok (.bipush 6, 2) := by decide +kernel
theorem dX11_add_69 : decode cX11_add 69 = .ok (.if_icmp .le 13, 3) := by decide +kernel
theorem dX11_add_72 : decode cX11_add 72 = .ok (.new 212, 3) := by decide +kernel
theorem dX11_add_75 : decode cX11_add 75 = .ok (.dup, 1) := by decide +kernel
theorem dX11_add_76 : decode cX11_add 76 = .ok (.ldc 214, 2) := by decide +kernel
theorem dX11_add_78 : decode cX11_add 78 = .ok (.invokespecial 216, 3) := by decide +kernel
theorem dX11_add_81 : decode cX11_add 81 = .ok (.athrow, 1) := by decide +kernel
theorem dX11_add_82 : decode cX11_add 82 = .ok (.aload_n 0, 1) := by decide +kernel
theorem dX11_add_83 : decode cX11_add 83 = .ok (.getfield 57, 3) := by decide +kernel
theorem dX11_add_86 : decode cX11_add 86 = .ok (.aload_n 0, 1) := by decide +kernel
theorem dX11_add_87 : decode cX11_add 87 = .ok (.getfield 61, 3) := by decide +kernel
theorem dX11_add_90 : decode cX11_add 90 = .ok (.iload_n 1, 1) := by decide +kernel
theorem dX11_add_91 : decode cX11_add 91 = .ok (.invokevirtual 217, 3) := by decide +kernel
theorem dX11_add_94 : decode cX11_add 94 = .ok (.istore_n 2, 1) := by decide +kernel
theorem dX11_add_95 : decode cX11_add 95 = .ok (.aload_n 0, 1) := by decide +kernel
theorem dX11_add_96 : decode cX11_add 96 = .ok (.iload_n 2, 1) := by decide +kernel
theorem dX11_add_97 : decode cX11_add 97 = .ok (.putfield 61, 3) := by decide +kernel
theorem dX11_add_100 : decode cX11_add 100 = .ok (.aload_n 0, 1) := by decide +kernel
theorem dX11_add_101 : decode cX11_add 101 = .ok (.getfield 68, 3) := by decide +kernel
theorem dX11_add_104 : decode cX11_add 104 = .ok (.iload_n 1, 1) := by decide +kernel
theorem dX11_add_105 : decode cX11_add 105 = .ok (.invokevirtual 220, 3) := by decide +kernel
theorem dX11_add_108 : decode cX11_add 108 = .ok (.iload_n 2, 1) := by decide +kernel
theorem dX11_add_109 : decode cX11_add 109 = .ok (.ireturn, 1) := by decide +kernel
theorem dX11_addMark_0 : decode cX11_addMark 0 = .ok (.iload_n 1, 1) := by decide +kernel
theorem dX11_addMark_1 : decode cX11_addMark 1 = .ok (.ifCond .lt 10, 3) := by decide +kernel
theorem dX11_addMark_4 : decode cX11_addMark 4 = .ok (.iload_n 1, 1) := by decide +kernel
theorem dX11_addMark_5 : decode cX11_addMark 5 = .ok (.sipush 255, 3) := by decide +kernel
theorem dX11_addMark_8 : decode cX11_addMark 8 = .ok (.if_icmp .le 13, 3) := by decide +kernel
theorem dX11_addMark_11 : decode cX11_addMark 11 = .ok (.new 144, 3) := by decide +kernel
theorem dX11_addMark_14 : decode cX11_addMark 14 = .ok (.dup, 1) := by decide +kernel
theorem dX11_addMark_15 : decode cX11_addMark 15 = .ok (.ldc 223, 2) := by decide +kernel
theorem dX11_addMark_17 : decode cX11_addMark 17 = .ok (.invokespecial 148, 3) := by decide +kernel
theorem dX11_addMark_20 : decode cX11_addMark 20 = .ok (.athrow, 1) := by decide +kernel
theorem dX11_addMark_21 : decode cX11_addMark 21 = .ok (.aload_n 0, 1) := by decide +kernel
theorem dX11_addMark_22 : decode cX11_addMark 22 = .ok (.getfield 57, 3) := by decide +kernel
theorem dX11_addMark_25 : decode cX11_addMark 25 = .ok (.aload_n 0, 1) := by decide +kernel
theorem dX11_addMark_26 : decode cX11_addMark 26 = .ok (.getfield 61, 3) := by decide +kernel
theorem dX11_addMark_29 : decode cX11_addMark 29 = .ok (.invokevirtual 124, 3) := by decide +kernel
theorem dX11_addMark_32 : decode cX11_addMark 32 = .ok (.astore_n 2, 1) := by decide +kernel
theorem dX11_addMark_33 : decode cX11_addMark 33 = .ok (.aload_n 0, 1) := by decide +kernel
theorem dX11_addMark_34 : decode cX11_addMark 34 = .ok (.getfield 61, 3) := by decide +kernel
theorem dX11_addMark_37 : decode cX11_addMark 37 = .ok (.ifCond .eq 11, 3) := by decide +kernel
theorem dX11_addMark_40 : decode cX11_addMark 40 = .ok (.aload_n 2, 1) := by decide +kernel
theorem dX11_addMark_41 : decode cX11_addMark 41 = .ok (.getfield 179, 3) := by decide +kernel
theorem dX11_addMark_44 : decode cX11_addMark 44 = .ok (.iconst 4, 1) := by decide +kernel
theorem dX11_addMark_45 : decode cX11_addMark 45 = .ok (.if_icmp .lt 13, 3) := by decide +kernel
theorem dX11_addMark_48 : decode cX11_addMark 48 = .ok (.new 225, 3) := by decide +kernel
theorem dX11_addMark_51 : decode cX11_addMark 51 = .ok (.dup, 1) := by decide +kernel
theorem dX11_addMark_52 : decode cX11_addMark 52 = .ok (.ldc 227, 2) := by decide +kernel
theorem dX11_addMark_54 : decode cX11_addMark 54 = .ok (.invokespecial 229, 3) := by decide +kernel
theorem dX11_addMark_57 : decode cX11_addMark 57 = .ok (.athrow, 1) := by decide +kernel
theorem dX11_addMark_58 : decode cX11_addMark 58 = .ok (.aload_n 2, 1) := by decide +kernel
theorem dX11_addMark_59 : decode cX11_addMark 59 = .ok (.iload_n 1, 1) := by decide +kernel
theorem dX11_addMark_60 : decode cX11_addMark 60 = .ok (.invokevirtual 230, 3) := by decide +kernel
theorem dX11_addMark_63 : decode cX11_addMark 63 = .ok (.aload_n 2, 1) := by decide +kernel
theorem dX11_addMark_64 : decode cX11_addMark 64 = .ok (.getfield 179, 3) := by decide +kernel
theorem dX11_addMark_67 : decode cX11_addMark 67 = .ok (.ireturn, 1) := by decide +kernel
theorem dX11_say_0 : decode cX11_say 0 = .ok (.aload_n 0, 1) := by decide +kernel
theorem dX11_say_1 : decode cX11_say 1 = .ok (.getfield 10, 3) := by decide +kernel
theorem dX11_say_4 : decode cX11_say 4 = .ok (.invokevirtual 75, 3) := by decide +kernel
theorem dX11_say_7 : decode cX11_say 7 = .ok (.istore_n 1, 1) := by decide +kernel
theorem dX11_say_8 : decode cX11_say 8 = .ok (.iload_n 1, 1) := by decide +kernel
theorem dX11_say_9 : decode cX11_say 9 = .ok (.sipush 200, 3) := by decide +kernel
theorem dX11_say_12 : decode cX11_say 12 = .ok (.if_icmp .gt 31, 3) := by decide +kernel
theorem dX11_say_15 : decode cX11_say 15 = .ok (.aload_n 0, 1) := by decide +kernel
theorem dX11_say_16 : decode cX11_say 16 = .ok (.getfield 10, 3) := by decide +kernel
theorem dX11_say_19 : decode cX11_say 19 = .ok (.bipush 125, 2) := by decide +kernel
theorem dX11_say_21 : decode cX11_say 21 = .ok (.iconst 0, 1) := by decide +kernel
theorem dX11_say_22 : decode cX11_say 22 = .ok (.invokevirtual 233, 3) := by decide +kernel
theorem dX11_say_25 : decode cX11_say 25 = .ok (.iload_n 1, 1) := by decide +kernel
theorem dX11_say_26 : decode cX11_say 26 = .ok (.if_icmp .lt 17, 3) := by decide +kernel
theorem dX11_say_29 : decode cX11_say 29 = .ok (.aload_n 0, 1) := by decide +kernel
theorem dX11_say_30 : decode cX11_say 30 = .ok (.getfield 10, 3) := by decide +kernel
theorem dX11_say_33 : decode cX11_say 33 = .ok (.bipush 10, 2) := by decide +kernel
theorem dX11_say_35 : decode cX11_say 35 = .ok (.iconst 0, 1) := by decide +kernel
theorem dX11_say_36 : decode cX11_say 36 = .ok (.invokevirtual 233, 3) := by decide +kernel
theorem dX11_say_39 : decode cX11_say 39 = .ok (.iload_n 1, 1) := by decide +kernel
theorem dX11_say_40 : decode cX11_say 40 = .ok (.if_icmp .ge 13, 3) := by decide +kernel
theorem dX11_say_43 : decode cX11_say 43 = .ok (.new 144, 3) := by decide +kernel
theorem dX11_say_46 : decode cX11_say 46 = .ok (.dup, 1) := by decide +kernel
theorem dX11_say_47 : decode cX11_say 47 = .ok (.ldc 237, 2) := by decide +kernel
theorem dX11_say_49 : decode cX11_say 49 = .ok (.invokespecial 148, 3) := by decide +kernel
theorem dX11_say_52 : decode cX11_say 52 = .ok (.athrow, 1) := by decide +kernel
theorem dX11_say_53 : decode cX11_say 53 = .ok (.aload_n 0, 1) := by decide +kernel
theorem dX11_say_54 : decode cX11_say 54 = .ok (.getfield 57, 3) := by decide +kernel
theorem dX11_say_57 : decode cX11_say 57 = .ok (.aload_n 0, 1) := by decide +kernel
theorem dX11_say_58 : decode cX11_say 58 = .ok (.getfield 61, 3) := by decide +kernel
theorem dX11_say_61 : decode cX11_say 61 = .ok (.invokevirtual 124, 3) := by decide +kernel
theorem dX11_say_64 : decode cX11_say 64 = .ok (.getfield 182, 3) := by decide +kernel
theorem dX11_say_67 : decode cX11_say 67 = .ok (.aload_n 0, 1) := by decide +kernel
theorem dX11_say_68 : decode cX11_say 68 = .ok (.getfield 10, 3) := by decide +kernel
theorem dX11_say_71 : decode cX11_say 71 = .ok (.invokevirtual 239, 3) := by decide +kernel
theorem dX11_say_74 : decode cX11_say 74 = .ok (.aload_n 0, 1) := by decide +kernel
theorem dX11_say_75 : decode cX11_say 75 = .ok (.getfield 10, 3) := by decide +kernel
theorem dX11_say_78 : decode cX11_say 78 = .ok (.iconst 0, 1) := by decide +kernel
theorem dX11_say_79 : decode cX11_say 79 = .ok (.invokevirtual 87, 3) := by decide +kernel
theorem dX11_say_82 : decode cX11_say 82 = .ok (.iload_n 1, 1) := by decide +kernel
theorem dX11_say_83 : decode cX11_say 83 = .ok (.ireturn, 1) := by decide +kernel
theorem dX11_lead_0 : decode cX11_lead 0 = .ok (.aload_n 0, 1) := by decide +kernel
theorem dX11_lead_1 : decode cX11_lead 1 = .ok (.getfield 61, 3) := by decide +kernel
theorem dX11_lead_4 : decode cX11_lead 4 = .ok (.ifCond .ne 13, 3) := by decide +kernel
theorem dX11_lead_7 : decode cX11_lead 7 = .ok (.new 225, 3) := by decide +kernel
theorem dX11_lead_10 : decode cX11_lead 10 = .ok (.dup, 1) := by decide +kernel
theorem dX11_lead_11 : decode cX11_lead 11 = .ok (.ldc 242, 2) := by decide +kernel
theorem dX11_lead_13 : decode cX11_lead 13 = .ok (.invokespecial 229, 3) := by decide +kernel
theorem dX11_lead_16 : decode cX11_lead 16 = .ok (.athrow, 1) := by decide +kernel
theorem dX11_lead_17 : decode cX11_lead 17 = .ok (.aload_n 0, 1) := by decide +kernel
theorem dX11_lead_18 : decode cX11_lead 18 = .ok (.getfield 57, 3) := by decide +kernel
theorem dX11_lead_21 : decode cX11_lead 21 = .ok (.aload_n 0, 1) := by decide +kernel
theorem dX11_lead_22 : decode cX11_lead 22 = .ok (.getfield 61, 3) := by decide +kernel
theorem dX11_lead_25 : decode cX11_lead 25 = .ok (.invokevirtual 244, 3) := by decide +kernel
theorem dX11_lead_28 : decode cX11_lead 28 = .ok (.ifCond .eq 5, 3) := by decide +kernel
theorem dX11_lead_31 : decode cX11_lead 31 = .ok (.iconst 0, 1) := by decide +kernel
theorem dX11_lead_32 : decode cX11_lead 32 = .ok (.ireturn, 1) := by decide +kernel
theorem dX11_lead_33 : decode cX11_lead 33 = .ok (.aload_n 0, 1) := by decide +kernel
theorem dX11_lead_34 : decode cX11_lead 34 = .ok (.getfield 57, 3) := by decide +kernel
theorem dX11_lead_37 : decode cX11_lead 37 = .ok (.aload_n 0, 1) := by decide +kernel
theorem dX11_lead_38 : decode cX11_lead 38 = .ok (.getfield 61, 3) := by decide +kernel
theorem dX11_lead_41 : decode cX11_lead 41 = .ok (.invokevirtual 247, 3) := by decide +kernel
theorem dX11_lead_44 : decode cX11_lead 44 = .ok (.ifCond .ne 13, 3) := by decide +kernel
theorem dX11_lead_47 : decode cX11_lead 47 = .ok (.new 225, 3) := by decide +kernel
theorem dX11_lead_50 : decode cX11_lead 50 = .ok (.dup, 1) := by decide +kernel
theorem dX11_lead_51 : decode cX11_lead 51 = .ok (.ldc 250, 2) := by decide +kernel
theorem dX11_lead_53 : decode cX11_lead 53 = .ok (.invokespecial 229, 3) := by decide +kernel
theorem dX11_lead_56 : decode cX11_lead 56 = .ok (.athrow, 1) := by decide +kernel
theorem dX11_lead_57 : decode cX11_lead 57 = .ok (.aload_n 0, 1) := by decide +kernel
theorem dX11_lead_58 : decode cX11_lead 58 = .ok (.getfield 57, 3) := by decide +kernel
theorem dX11_lead_61 : decode cX11_lead 61 = .ok (.aload_n 0, 1) := by decide +kernel
theorem dX11_lead_62 : decode cX11_lead 62 = .ok (.getfield 61, 3) := by decide +kernel
theorem dX11_lead_65 : decode cX11_lead 65 = .ok (.invokevirtual 252, 3) := by decide +kernel
theorem dX11_lead_68 : decode cX11_lead 68 = .ok (.iconst 1, 1) := by decide +kernel
theorem dX11_lead_69 : decode cX11_lead 69 = .ok (.ireturn, 1) := by decide +kernel
theorem dX11_end_0 : decode cX11_end 0 = .ok (.iload_n 1, 1) := by decide +kernel
theorem dX11_end_1 : decode cX11_end 1 = .ok (.ifCond .lt 8, 3) := by decide +kernel
theorem dX11_end_4 : decode cX11_end 4 = .ok (.iload_n 1, 1) := by decide +kernel
theorem dX11_end_5 : decode cX11_end 5 = .ok (.iconst 4, 1) := by decide +kernel
theorem dX11_end_6 : decode cX11_end 6 = .ok (.if_icmp .lt 13, 3) := by decide +kernel
theorem dX11_end_9 : decode cX11_end 9 = .ok (.new 144, 3) := by decide +kernel
theorem dX11_end_12 : decode cX11_end 12 = .ok (.dup, 1) := by decide +kernel
theorem dX11_end_13 : decode cX11_end 13 = .ok (.ldc 255, 2) := by decide +kernel
theorem dX11_end_15 : decode cX11_end 15 = .ok (.invokespecial 148, 3) := by decide +kernel
theorem dX11_end_18 : decode cX11_end 18 = .ok (.athrow, 1) := by decide +kernel
theorem dX11_end_19 : decode cX11_end 19 = .ok (.aload_n 0, 1) := by decide +kernel
theorem dX11_end_20 : decode cX11_end 20 = .ok (.getfield 57, 3) := by decide +kernel
theorem dX11_end_23 : decode cX11_end 23 = .ok (.iload_n 1, 1) := by decide +kernel
theorem dX11_end_24 : decode cX11_end 24 = .ok (.putfield 257, 3) := by decide +kernel
theorem dX11_end_27 : decode cX11_end 27 = .ok (.return_, 1) := by decide +kernel
theorem dX11_result_0 : decode cX11_result 0 = .ok (.aload_n 0, 1) := by decide +kernel
theorem dX11_result_1 : decode cX11_result 1 = .ok (.getfield 57, 3) := by decide +kernel
theorem dX11_result_4 : decode cX11_result 4 = .ok (.getfield 257, 3) := by decide +kernel
theorem dX11_result_7 : decode cX11_result 7 = .ok (.ireturn, 1) := by decide +kernel
theorem dX11_tags_0 : decode cX11_tags 0 = .ok (.aload_n 0, 1) := by decide +kernel
theorem dX11_tags_1 : decode cX11_tags 1 = .ok (.getfield 57, 3) := by decide +kernel
theorem dX11_tags_4 : decode cX11_tags 4 = .ok (.getfield 260, 3) := by decide +kernel
theorem dX11_tags_7 : decode cX11_tags 7 = .ok (.ireturn, 1) := by decide +kernel
theorem dX11_tag_0 : decode cX11_tag 0 = .ok (.iload_n 1, 1) := by decide +kernel
theorem dX11_tag_1 : decode cX11_tag 1 = .ok (.ifCond .lt 18, 3) := by decide +kernel
theorem dX11_tag_4 : decode cX11_tag 4 = .ok (.iload_n 1, 1) := by decide +kernel
theorem dX11_tag_5 : decode cX11_tag 5 = .ok (.aload_n 0, 1) := by decide +kernel
theorem dX11_tag_6 : decode cX11_tag 6 = .ok (.getfield 57, 3) := by decide +kernel
theorem dX11_tag_9 : decode cX11_tag 9 = .ok (.getfield 260, 3) := by decide +kernel
theorem dX11_tag_12 : decode cX11_tag 12 = .ok (.if_icmp .ge 7, 3) := by decide +kernel
theorem dX11_tag_15 : decode cX11_tag 15 = .ok (.iload_n 3, 1) := by decide +kernel
theorem dX11_tag_16 : decode cX11_tag 16 = .ok (.ifCond .ge 14, 3) := by decide +kernel
theorem dX11_tag_19 : decode cX11_tag 19 = .ok (.new 165, 3) := by decide +kernel
theorem dX11_tag_22 : decode cX11_tag 22 = .ok (.dup, 1) := by decide +kernel
theorem dX11_tag_23 : decode cX11_tag 23 = .ok (.ldc_w 263, 3) := by decide +kernel
theorem dX11_tag_26 : decode cX11_tag 26 = .ok (.invokespecial 169, 3) := by decide +kernel
theorem dX11_tag_29 : decode cX11_tag 29 = .ok (.athrow, 1) := by decide +kernel
theorem dX11_tag_30 : decode cX11_tag 30 = .ok (.aload_n 0, 1) := by decide +kernel
theorem dX11_tag_31 : decode cX11_tag 31 = .ok (.getfield 57, 3) := by decide +kernel
theorem dX11_tag_34 : decode cX11_tag 34 = .ok (.iload_n 1, 1) := by decide +kernel
theorem dX11_tag_35 : decode cX11_tag 35 = .ok (.invokevirtual 265, 3) := by decide +kernel
theorem dX11_tag_38 : decode cX11_tag 38 = .ok (.astore 4, 2) := by decide +kernel
theorem dX11_tag_40 : decode cX11_tag 40 = .ok (.iload_n 2, 1) := by decide +kernel
theorem dX11_tag_41 : decode cX11_tag 41 = .ok (.ifCond .eq 15, 3) := by decide +kernel
theorem dX11_tag_44 : decode cX11_tag 44 = .ok (.aload 4, 2) := by decide +kernel
theorem dX11_tag_46 : decode cX11_tag 46 = .ok (.getfield 269, 3) := by decide +kernel
theorem dX11_tag_49 : decode cX11_tag 49 = .ok (.iload_n 3, 1) := by decide +kernel
theorem dX11_tag_50 : decode cX11_tag 50 = .ok (.invokevirtual 155, 3) := by decide +kernel
theorem dX11_tag_53 : decode cX11_tag 53 = .ok (.goto 12, 3) := by decide +kernel
theorem dX11_tag_56 : decode cX11_tag 56 = .ok (.aload 4, 2) := by decide +kernel
theorem dX11_tag_58 : decode cX11_tag 58 = .ok (.getfield 274, 3) := by decide +kernel
theorem dX11_tag_61 : decode cX11_tag 61 = .ok (.iload_n 3, 1) := by decide +kernel
theorem dX11_tag_62 : decode cX11_tag 62 = .ok (.invokevirtual 155, 3) := by decide +kernel
theorem dX11_tag_65 : decode cX11_tag 65 = .ok (.ireturn, 1) := by decide +kernel
theorem dX11_byteOf_0 : decode cX11_byteOf 0 = .ok (.lload_n 0, 1) := by decide +kernel
theorem dX11_byteOf_1 : decode cX11_byteOf 1 = .ok (.bipush 8, 2) := by decide +kernel
theorem dX11_byteOf_3 : decode cX11_byteOf 3 = .ok (.iload_n 2, 1) := by decide +kernel
theorem dX11_byteOf_4 : decode cX11_byteOf 4 = .ok (.imul, 1) := by decide +kernel
theorem dX11_byteOf_5 : decode cX11_byteOf 5 = .ok (.lushr, 1) := by decide +kernel
theorem dX11_byteOf_6 : decode cX11_byteOf 6 = .ok (.ldc2_w 277, 3) := by decide +kernel
theorem dX11_byteOf_9 : decode cX11_byteOf 9 = .ok (.land, 1) := by decide +kernel
theorem dX11_byteOf_10 : decode cX11_byteOf 10 = .ok (.l2i, 1) := by decide +kernel
theorem dX11_byteOf_11 : decode cX11_byteOf 11 = .ok (.i2c, 1) := by decide +kernel
theorem dX11_byteOf_12 : decode cX11_byteOf 12 = .ok (.ireturn, 1) := by decide +kernel
theorem dX11_isDigit_0 : decode cX11_isDigit 0 = .ok (.iload_n 0, 1) := by decide +kernel
theorem dX11_isDigit_1 : decode cX11_isDigit 1 = .ok (.bipush 48, 2) := by decide +kernel
theorem dX11_isDigit_3 : decode cX11_isDigit 3 = .ok (.if_icmp .lt 13, 3) := by decide +kernel
theorem dX11_isDigit_6 : decode cX11_isDigit 6 = .ok (.iload_n 0, 1) := by decide +kernel
theorem dX11_isDigit_7 : decode cX11_isDigit 7 = .ok (.bipush 57, 2) := by decide +kernel
theorem dX11_isDigit_9 : decode cX11_isDigit 9 = .ok (.if_icmp .gt 7, 3) := by decide +kernel
theorem dX11_isDigit_12 : decode cX11_isDigit 12 = .ok (.iconst 1, 1) := by decide +kernel
theorem dX11_isDigit_13 : decode cX11_isDigit 13 = .ok (.goto 4, 3) := by decide +kernel
theorem dX11_isDigit_16 : decode cX11_isDigit 16 = .ok (.iconst 0, 1) := by decide +kernel
theorem dX11_isDigit_17 : decode cX11_isDigit 17 = .ok (.ireturn, 1) := by decide +kernel
theorem dX11_isLetter_0 : decode cX11_isLetter 0 = .ok (.iload_n 0, 1) := by decide +kernel
theorem dX11_isLetter_1 : decode cX11_isLetter 1 = .ok (.bipush 97, 2) := by decide +kernel
theorem dX11_isLetter_3 : decode cX11_isLetter 3 = .ok (.if_icmp .lt 9, 3) := by decide +kernel
theorem dX11_isLetter_6 : decode cX11_isLetter 6 = .ok (.iload_n 0, 1) := by decide +kernel
theorem dX11_isLetter_7 : decode cX11_isLetter 7 = .ok (.bipush 122, 2) := by decide +kernel
theorem dX11_isLetter_9 : decode cX11_isLetter 9 = .ok (.if_icmp .le 15, 3) := by decide +kernel
theorem dX11_isLetter_12 : decode cX11_isLetter 12 = .ok (.iload_n 0, 1) := by decide +kernel
theorem dX11_isLetter_13 : decode cX11_isLetter 13 = .ok (.bipush 65, 2) := by decide +kernel
theorem dX11_isLetter_15 : decode cX11_isLetter 15 = .ok (.if_icmp .lt 13, 3) := by decide +kernel
theorem dX11_isLetter_18 : decode cX11_isLetter 18 = .ok (.iload_n 0, 1) := by decide +kernel
theorem dX11_isLetter_19 : decode cX11_isLetter 19 = .ok (.bipush 90, 2) := by decide +kernel
theorem dX11_isLetter_21 : decode cX11_isLetter 21 = .ok (.if_icmp .gt 7, 3) := by decide +kernel
theorem dX11_isLetter_24 : decode cX11_isLetter 24 = .ok (.iconst 1, 1) := by decide +kernel
theorem dX11_isLetter_25 : decode cX11_isLetter 25 = .ok (.goto 4, 3) := by decide +kernel
theorem dX11_isLetter_28 : decode cX11_isLetter 28 = .ok (.iconst 0, 1) := by decide +kernel
theorem dX11_isLetter_29 : decode cX11_isLetter 29 = .ok (.ireturn, 1) := by decide +kernel
theorem dX11_isFile_0 : decode cX11_isFile 0 = .ok (.iload_n 0, 1) := by decide +kernel
theorem dX11_isFile_1 : decode cX11_isFile 1 = .ok (.bipush 97, 2) := by decide +kernel
theorem dX11_isFile_3 : decode cX11_isFile 3 = .ok (.if_icmp .lt 13, 3) := by decide +kernel
theorem dX11_isFile_6 : decode cX11_isFile 6 = .ok (.iload_n 0, 1) := by decide +kernel
theorem dX11_isFile_7 : decode cX11_isFile 7 = .ok (.bipush 104, 2) := by decide +kernel
theorem dX11_isFile_9 : decode cX11_isFile 9 = .ok (.if_icmp .gt 7, 3) := by decide +kernel
theorem dX11_isFile_12 : decode cX11_isFile 12 = .ok (.iconst 1, 1) := by decide +kernel
theorem dX11_isFile_13 : decode cX11_isFile 13 = .ok (.goto 4, 3) := by decide +kernel
theorem dX11_isFile_16 : decode cX11_isFile 16 = .ok (.iconst 0, 1) := by decide +kernel
theorem dX11_isFile_17 : decode cX11_isFile 17 = .ok (.ireturn, 1) := by decide +kernel
theorem dX11_isRank_0 : decode cX11_isRank 0 = .ok (.iload_n 0, 1) := by decide +kernel
theorem dX11_isRank_1 : decode cX11_isRank 1 = .ok (.bipush 49, 2) := by decide +kernel
theorem dX11_isRank_3 : decode cX11_isRank 3 = .ok (.if_icmp .lt 13, 3) := by decide +kernel
theorem dX11_isRank_6 : decode cX11_isRank 6 = .ok (.iload_n 0, 1) := by decide +kernel
theorem dX11_isRank_7 : decode cX11_isRank 7 = .ok (.bipush 56, 2) := by decide +kernel
theorem dX11_isRank_9 : decode cX11_isRank 9 = .ok (.if_icmp .gt 7, 3) := by decide +kernel
theorem dX11_isRank_12 : decode cX11_isRank 12 = .ok (.iconst 1, 1) := by decide +kernel
theorem dX11_isRank_13 : decode cX11_isRank 13 = .ok (.goto 4, 3) := by decide +kernel
theorem dX11_isRank_16 : decode cX11_isRank 16 = .ok (.iconst 0, 1) := by decide +kernel
theorem dX11_isRank_17 : decode cX11_isRank 17 = .ok (.ireturn, 1) := by decide +kernel
theorem dX11_squareOf_0 : decode cX11_squareOf 0 = .ok (.iload_n 0, 1) := by decide +kernel
theorem dX11_squareOf_1 : decode cX11_squareOf 1 = .ok (.invokestatic 279, 3) := by decide +kernel
theorem dX11_squareOf_4 : decode cX11_squareOf 4 = .ok (.ifCond .eq 25, 3) := by decide +kernel
theorem dX11_squareOf_7 : decode cX11_squareOf 7 = .ok (.iload_n 1, 1) := by decide +kernel
theorem dX11_squareOf_8 : decode cX11_squareOf 8 = .ok (.invokestatic 283, 3) := by decide +kernel
theorem dX11_squareOf_11 : decode cX11_squareOf 11 = .ok (.ifCond .eq 18, 3) := by decide +kernel
theorem dX11_squareOf_14 : decode cX11_squareOf 14 = .ok (.iload_n 0, 1) := by decide +kernel
theorem dX11_squareOf_15 : decode cX11_squareOf 15 = .ok (.bipush 97, 2) := by decide +kernel
theorem dX11_squareOf_17 : decode cX11_squareOf 17 = .ok (.isub, 1) := by decide +kernel
theorem dX11_squareOf_18 : decode cX11_squareOf 18 = .ok (.bipush 8, 2) := by decide +kernel
theorem dX11_squareOf_20 : decode cX11_squareOf 20 = .ok (.iload_n 1, 1) := by decide +kernel
theorem dX11_squareOf_21 : decode cX11_squareOf 21 = .ok (.bipush 49, 2) := by decide +kernel
theorem dX11_squareOf_23 : decode cX11_squareOf 23 = .ok (.isub, 1) := by decide +kernel
theorem dX11_squareOf_24 : decode cX11_squareOf 24 = .ok (.imul, 1) := by decide +kernel
theorem dX11_squareOf_25 : decode cX11_squareOf 25 = .ok (.iadd, 1) := by decide +kernel
theorem dX11_squareOf_26 : decode cX11_squareOf 26 = .ok (.goto 4, 3) := by decide +kernel
theorem dX11_squareOf_29 : decode cX11_squareOf 29 = .ok (.iconst (-1), 1) := by decide +kernel
theorem dX11_squareOf_30 : decode cX11_squareOf 30 = .ok (.ireturn, 1) := by decide +kernel
theorem dX11_fileLetter_0 : decode cX11_fileLetter 0 = .ok (.bipush 97, 2) := by decide +kernel
theorem dX11_fileLetter_2 : decode cX11_fileLetter 2 = .ok (.iload_n 0, 1) := by decide +kernel
theorem dX11_fileLetter_3 : decode cX11_fileLetter 3 = .ok (.bipush 7, 2) := by decide +kernel
theorem dX11_fileLetter_5 : decode cX11_fileLetter 5 = .ok (.iand, 1) := by decide +kernel
theorem dX11_fileLetter_6 : decode cX11_fileLetter 6 = .ok (.iadd, 1) := by decide +kernel
theorem dX11_fileLetter_7 : decode cX11_fileLetter 7 = .ok (.i2c, 1) := by decide +kernel
theorem dX11_fileLetter_8 : decode cX11_fileLetter 8 = .ok (.ireturn, 1) := by decide +kernel
theorem dX11_rankDigit_0 : decode cX11_rankDigit 0 = .ok (.bipush 49, 2) := by decide +kernel
theorem dX11_rankDigit_2 : decode cX11_rankDigit 2 = .ok (.iload_n 0, 1) := by decide +kernel
theorem dX11_rankDigit_3 : decode cX11_rankDigit 3 = .ok (.iconst 3, 1) := by decide +kernel
theorem dX11_rankDigit_4 : decode cX11_rankDigit 4 = .ok (.ishr, 1) := by decide +kernel
theorem dX11_rankDigit_5 : decode cX11_rankDigit 5 = .ok (.iadd, 1) := by decide +kernel
theorem dX11_rankDigit_6 : decode cX11_rankDigit 6 = .ok (.i2c, 1) := by decide +kernel
theorem dX11_rankDigit_7 : decode cX11_rankDigit 7 = .ok (.ireturn, 1) := by decide +kernel
theorem dX11_kindOf_0 : decode cX11_kindOf 0 = .ok (.ldc_w 286, 3) := by decide +kernel
theorem dX11_kindOf_3 : decode cX11_kindOf 3 = .ok (.iload_n 0, 1) := by decide +kernel
theorem dX11_kindOf_4 : decode cX11_kindOf 4 = .ok (.invokevirtual 288, 3) := by decide +kernel
theorem dX11_kindOf_7 : decode cX11_kindOf 7 = .ok (.iconst 1, 1) := by decide +kernel
theorem dX11_kindOf_8 : decode cX11_kindOf 8 = .ok (.iadd, 1) := by decide +kernel
theorem dX11_kindOf_9 : decode cX11_kindOf 9 = .ok (.ireturn, 1) := by decide +kernel
theorem dX11_letterOf_0 : decode cX11_letterOf 0 = .ok (.iload_n 0, 1) := by decide +kernel
theorem dX11_letterOf_1 : decode cX11_letterOf 1 = .ok (.iconst 1, 1) := by decide +kernel
theorem dX11_letterOf_2 : decode cX11_letterOf 2 = .ok (.if_icmp .lt 21, 3) := by decide +kernel
theorem dX11_letterOf_5 : decode cX11_letterOf 5 = .ok (.iload_n 0, 1) := by decide +kernel
theorem dX11_letterOf_6 : decode cX11_letterOf 6 = .ok (.bipush 6, 2) := by decide +kernel
theorem dX11_letterOf_8 : decode cX11_letterOf 8 = .ok (.if_icmp .gt 15, 3) := by decide +kernel
theorem dX11_letterOf_11 : decode cX11_letterOf 11 = .ok (.ldc_w 286, 3) := by decide +kernel
theorem dX11_letterOf_14 : decode cX11_letterOf 14 = .ok (.iload_n 0, 1) := by decide +kernel
theorem dX11_letterOf_15 : decode cX11_letterOf 15 = .ok (.iconst 1, 1) := by decide +kernel
theorem dX11_letterOf_16 : decode cX11_letterOf 16 = .ok (.isub, 1) := by decide +kernel
theorem dX11_letterOf_17 : decode cX11_letterOf 17 = .ok (.invokevirtual 292, 3) := by decide +kernel
theorem dX11_letterOf_20 : decode cX11_letterOf 20 = .ok (.goto 5, 3) := by decide +kernel
theorem dX11_letterOf_23 : decode cX11_letterOf 23 = .ok (.bipush 63, 2) := by decide +kernel
theorem dX11_letterOf_25 : decode cX11_letterOf 25 = .ok (.ireturn, 1) := by decide +kernel
theorem dX11_resultSign_0 : decode cX11_resultSign 0 = .ok (.iload_n 0, 1) := by decide +kernel
theorem dX11_resultSign_1 : decode cX11_resultSign 1 = .ok (.tableswitch 39 1 3 #[27, 31, 35], 27) := by decide +kernel
theorem dX11_resultSign_28 : decode cX11_resultSign 28 = .ok (.ldc_w 295, 3) := by decide +kernel
theorem dX11_resultSign_31 : decode cX11_resultSign 31 = .ok (.areturn, 1) := by decide +kernel
theorem dX11_resultSign_32 : decode cX11_resultSign 32 = .ok (.ldc_w 297, 3) := by decide +kernel
theorem dX11_resultSign_35 : decode cX11_resultSign 35 = .ok (.areturn, 1) := by decide +kernel
theorem dX11_resultSign_36 : decode cX11_resultSign 36 = .ok (.ldc_w 299, 3) := by decide +kernel
theorem dX11_resultSign_39 : decode cX11_resultSign 39 = .ok (.areturn, 1) := by decide +kernel
theorem dX11_resultSign_40 : decode cX11_resultSign 40 = .ok (.ldc_w 301, 3) := by decide +kernel
theorem dX11_resultSign_43 : decode cX11_resultSign 43 = .ok (.areturn, 1) := by decide +kernel
