theorem dX12_resultSize_19 : decode cX12_resultSize 19 = .ok (.ireturn, 1) := by decide +kernel
theorem dX12_isResultValue_0 : decode cX12_isResultValue 0 = .ok (.aload_n 0, 1) := by decide +kernel
theorem dX12_isResultValue_1 : decode cX12_isResultValue 1 = .ok (.getfield 61, 3) := by decide +kernel
theorem dX12_isResultValue_4 : decode cX12_isResultValue 4 = .ok (.bipush 8, 2) := by decide +kernel
theorem dX12_isResultValue_6 : decode cX12_isResultValue 6 = .ok (.iload_n 1, 1) := by decide +kernel
theorem dX12_isResultValue_7 : decode cX12_isResultValue 7 = .ok (.imul, 1) := by decide +kernel
theorem dX12_isResultValue_8 : decode cX12_isResultValue 8 = .ok (.iload_n 2, 1) := by decide +kernel
theorem dX12_isResultValue_9 : decode cX12_isResultValue 9 = .ok (.iadd, 1) := by decide +kernel
theorem dX12_isResultValue_10 : decode cX12_isResultValue 10 = .ok (.iaload, 1) := by decide +kernel
theorem dX12_isResultValue_11 : decode cX12_isResultValue 11 = .ok (.iload_n 3, 1) := by decide +kernel
theorem dX12_isResultValue_12 : decode cX12_isResultValue 12 = .ok (.invokestatic 340, 3) := by decide +kernel
theorem dX12_isResultValue_15 : decode cX12_isResultValue 15 = .ok (.if_icmp .ne 7, 3) := by decide +kernel
theorem dX12_isResultValue_18 : decode cX12_isResultValue 18 = .ok (.iconst 1, 1) := by decide +kernel
theorem dX12_isResultValue_19 : decode cX12_isResultValue 19 = .ok (.goto 4, 3) := by decide +kernel
theorem dX12_isResultValue_22 : decode cX12_isResultValue 22 = .ok (.iconst 0, 1) := by decide +kernel
theorem dX12_isResultValue_23 : decode cX12_isResultValue 23 = .ok (.istore 4, 2) := by decide +kernel
theorem dX12_isResultValue_25 : decode cX12_isResultValue 25 = .ok (.iconst 0, 1) := by decide +kernel
theorem dX12_isResultValue_26 : decode cX12_isResultValue 26 = .ok (.istore 5, 2) := by decide +kernel
theorem dX12_isResultValue_28 : decode cX12_isResultValue 28 = .ok (.iload 5, 2) := by decide +kernel
theorem dX12_isResultValue_30 : decode cX12_isResultValue 30 = .ok (.iload_n 3, 1) := by decide +kernel
theorem dX12_isResultValue_31 : decode cX12_isResultValue 31 = .ok (.invokestatic 340, 3) := by decide +kernel
theorem dX12_isResultValue_34 : decode cX12_isResultValue 34 = .ok (.if_icmp .ge 48, 3) := by decide +kernel
theorem dX12_isResultValue_37 : decode cX12_isResultValue 37 = .ok (.iload 4, 2) := by decide +kernel
theorem dX12_isResultValue_39 : decode cX12_isResultValue 39 = .ok (.ifCond .eq 43, 3) := by decide +kernel
theorem dX12_isResultValue_42 : decode cX12_isResultValue 42 = .ok (.aload_n 0, 1) := by decide +kernel
theorem dX12_isResultValue_43 : decode cX12_isResultValue 43 = .ok (.getfield 64, 3) := by decide +kernel
theorem dX12_isResultValue_46 : decode cX12_isResultValue 46 = .ok (.sipush 768, 3) := by decide +kernel
theorem dX12_isResultValue_49 : decode cX12_isResultValue 49 = .ok (.iload_n 1, 1) := by decide +kernel
theorem dX12_isResultValue_50 : decode cX12_isResultValue 50 = .ok (.imul, 1) := by decide +kernel
theorem dX12_isResultValue_51 : decode cX12_isResultValue 51 = .ok (.bipush 96, 2) := by decide +kernel
theorem dX12_isResultValue_53 : decode cX12_isResultValue 53 = .ok (.iload_n 2, 1) := by decide +kernel
theorem dX12_isResultValue_54 : decode cX12_isResultValue 54 = .ok (.imul, 1) := by decide +kernel
theorem dX12_isResultValue_55 : decode cX12_isResultValue 55 = .ok (.iadd, 1) := by decide +kernel
theorem dX12_isResultValue_56 : decode cX12_isResultValue 56 = .ok (.iload 5, 2) := by decide +kernel
theorem dX12_isResultValue_58 : decode cX12_isResultValue 58 = .ok (.iadd, 1) := by decide +kernel
theorem dX12_isResultValue_59 : decode cX12_isResultValue 59 = .ok (.caload, 1) := by decide +kernel
theorem dX12_isResultValue_60 : decode cX12_isResultValue 60 = .ok (.iload_n 3, 1) := by decide +kernel
theorem dX12_isResultValue_61 : decode cX12_isResultValue 61 = .ok (.iload 5, 2) := by decide +kernel
theorem dX12_isResultValue_63 : decode cX12_isResultValue 63 = .ok (.invokestatic 343, 3) := by decide +kernel
theorem dX12_isResultValue_66 : decode cX12_isResultValue 66 = .ok (.if_icmp .ne 7, 3) := by decide +kernel
theorem dX12_isResultValue_69 : decode cX12_isResultValue 69 = .ok (.iconst 1, 1) := by decide +kernel
theorem dX12_isResultValue_70 : decode cX12_isResultValue 70 = .ok (.goto 4, 3) := by decide +kernel
theorem dX12_isResultValue_73 : decode cX12_isResultValue 73 = .ok (.iconst 0, 1) := by decide +kernel
theorem dX12_isResultValue_74 : decode cX12_isResultValue 74 = .ok (.istore 4, 2) := by decide +kernel
theorem dX12_isResultValue_76 : decode cX12_isResultValue 76 = .ok (.iinc 5 1, 3) := by decide +kernel
theorem dX12_isResultValue_79 : decode cX12_isResultValue 79 = .ok (.goto (-51), 3) := by decide +kernel
theorem dX12_isResultValue_82 : decode cX12_isResultValue 82 = .ok (.iload 4, 2) := by decide +kernel
theorem dX12_isResultValue_84 : decode cX12_isResultValue 84 = .ok (.ireturn, 1) := by decide +kernel
theorem dX12_read_0 : decode cX12_read 0 = .ok (.aload_n 0, 1) := by decide +kernel
theorem dX12_read_1 : decode cX12_read 1 = .ok (.iconst 0, 1) := by decide +kernel
theorem dX12_read_2 : decode cX12_read 2 = .ok (.putfield 99, 3) := by decide +kernel
theorem dX12_read_5 : decode cX12_read 5 = .ok (.iconst 1, 1) := by decide +kernel
theorem dX12_read_6 : decode cX12_read 6 = .ok (.aload_n 0, 1) := by decide +kernel
theorem dX12_read_7 : decode cX12_read 7 = .ok (.getfield 347, 3) := by decide +kernel
theorem dX12_read_10 : decode cX12_read 10 = .ok (.isub, 1) := by decide +kernel
theorem dX12_read_11 : decode cX12_read 11 = .ok (.istore_n 1, 1) := by decide +kernel
theorem dX12_read_12 : decode cX12_read 12 = .ok (.aload_n 0, 1) := by decide +kernel
theorem dX12_read_13 : decode cX12_read 13 = .ok (.iload_n 1, 1) := by decide +kernel
theorem dX12_read_14 : decode cX12_read 14 = .ok (.invokevirtual 88, 3) := by decide +kernel
theorem dX12_read_17 : decode cX12_read 17 = .ok (.aload_n 0, 1) := by decide +kernel
theorem dX12_read_18 : decode cX12_read 18 = .ok (.iload_n 1, 1) := by decide +kernel
theorem dX12_read_19 : decode cX12_read 19 = .ok (.invokevirtual 92, 3) := by decide +kernel
theorem dX12_read_22 : decode cX12_read 22 = .ok (.aload_n 0, 1) := by decide +kernel
theorem dX12_read_23 : decode cX12_read 23 = .ok (.iload_n 1, 1) := by decide +kernel
theorem dX12_read_24 : decode cX12_read 24 = .ok (.invokevirtual 350, 3) := by decide +kernel
theorem dX12_read_27 : decode cX12_read 27 = .ok (.istore_n 2, 1) := by decide +kernel
theorem dX12_read_28 : decode cX12_read 28 = .ok (.iload_n 2, 1) := by decide +kernel
theorem dX12_read_29 : decode cX12_read 29 = .ok (.ifCond .ne 18, 3) := by decide +kernel
theorem dX12_read_32 : decode cX12_read 32 = .ok (.aload_n 0, 1) := by decide +kernel
theorem dX12_read_33 : decode cX12_read 33 = .ok (.iload_n 1, 1) := by decide +kernel
theorem dX12_read_34 : decode cX12_read 34 = .ok (.putfield 347, 3) := by decide +kernel
theorem dX12_read_37 : decode cX12_read 37 = .ok (.aload_n 0, 1) := by decide +kernel
theorem dX12_read_38 : decode cX12_read 38 = .ok (.iconst 0, 1) := by decide +kernel
theorem dX12_read_39 : decode cX12_read 39 = .ok (.putfield 353, 3) := by decide +kernel
theorem dX12_read_42 : decode cX12_read 42 = .ok (.aload_n 0, 1) := by decide +kernel
theorem dX12_read_43 : decode cX12_read 43 = .ok (.iconst 0, 1) := by decide +kernel
theorem dX12_read_44 : decode cX12_read 44 = .ok (.putfield 270, 3) := by decide +kernel
theorem dX12_read_47 : decode cX12_read 47 = .ok (.aload_n 0, 1) := by decide +kernel
theorem dX12_read_48 : decode cX12_read 48 = .ok (.aload_n 0, 1) := by decide +kernel
theorem dX12_read_49 : decode cX12_read 49 = .ok (.getfield 347, 3) := by decide +kernel
theorem dX12_read_52 : decode cX12_read 52 = .ok (.aload_n 0, 1) := by decide +kernel
theorem dX12_read_53 : decode cX12_read 53 = .ok (.getfield 353, 3) := by decide +kernel
theorem dX12_read_56 : decode cX12_read 56 = .ok (.invokevirtual 95, 3) := by decide +kernel
theorem dX12_read_59 : decode cX12_read 59 = .ok (.iload_n 2, 1) := by decide +kernel
theorem dX12_read_60 : decode cX12_read 60 = .ok (.ireturn, 1) := by decide +kernel
theorem dX12_find_0 : decode cX12_find 0 = .ok (.aload_n 0, 1) := by decide +kernel
theorem dX12_find_1 : decode cX12_find 1 = .ok (.iconst 0, 1) := by decide +kernel
theorem dX12_find_2 : decode cX12_find 2 = .ok (.putfield 99, 3) := by decide +kernel
theorem dX12_find_5 : decode cX12_find 5 = .ok (.aload_n 0, 1) := by decide +kernel
theorem dX12_find_6 : decode cX12_find 6 = .ok (.iconst 0, 1) := by decide +kernel
theorem dX12_find_7 : decode cX12_find 7 = .ok (.aload_n 0, 1) := by decide +kernel
theorem dX12_find_8 : decode cX12_find 8 = .ok (.getfield 270, 3) := by decide +kernel
theorem dX12_find_11 : decode cX12_find 11 = .ok (.invokevirtual 307, 3) := by decide +kernel
theorem dX12_find_14 : decode cX12_find 14 = .ok (.ireturn, 1) := by decide +kernel
theorem dX12_type_0 : decode cX12_type 0 = .ok (.aload_n 0, 1) := by decide +kernel
theorem dX12_type_1 : decode cX12_type 1 = .ok (.iconst 0, 1) := by decide +kernel
theorem dX12_type_2 : decode cX12_type 2 = .ok (.putfield 99, 3) := by decide +kernel
theorem dX12_type_5 : decode cX12_type 5 = .ok (.iload_n 3, 1) := by decide +kernel
theorem dX12_type_6 : decode cX12_type 6 = .ok (.iconst 1, 1) := by decide +kernel
theorem dX12_type_7 : decode cX12_type 7 = .ok (.if_icmp .lt 21, 3) := by decide +kernel
theorem dX12_type_10 : decode cX12_type 10 = .ok (.iload_n 3, 1) := by decide +kernel
theorem dX12_type_11 : decode cX12_type 11 = .ok (.bipush 8, 2) := by decide +kernel
theorem dX12_type_13 : decode cX12_type 13 = .ok (.if_icmp .gt 15, 3) := by decide +kernel
theorem dX12_type_16 : decode cX12_type 16 = .ok (.aload_n 0, 1) := by decide +kernel
theorem dX12_type_17 : decode cX12_type 17 = .ok (.getfield 270, 3) := by decide +kernel
theorem dX12_type_20 : decode cX12_type 20 = .ok (.iload_n 3, 1) := by decide +kernel
theorem dX12_type_21 : decode cX12_type 21 = .ok (.iadd, 1) := by decide +kernel
theorem dX12_type_22 : decode cX12_type 22 = .ok (.sipush 2000, 3) := by decide +kernel
theorem dX12_type_25 : decode cX12_type 25 = .ok (.if_icmp .le 5, 3) := by decide +kernel
theorem dX12_type_28 : decode cX12_type 28 = .ok (.iconst 0, 1) := by decide +kernel
theorem dX12_type_29 : decode cX12_type 29 = .ok (.ireturn, 1) := by decide +kernel
theorem dX12_type_30 : decode cX12_type 30 = .ok (.iconst 0, 1) := by decide +kernel
theorem dX12_type_31 : decode cX12_type 31 = .ok (.istore 4, 2) := by decide +kernel
theorem dX12_type_33 : decode cX12_type 33 = .ok (.iload 4, 2) := by decide +kernel
theorem dX12_type_35 : decode cX12_type 35 = .ok (.iload_n 3, 1) := by decide +kernel
theorem dX12_type_36 : decode cX12_type 36 = .ok (.if_icmp .ge 51, 3) := by decide +kernel
theorem dX12_type_39 : decode cX12_type 39 = .ok (.lload_n 1, 1) := by decide +kernel
theorem dX12_type_40 : decode cX12_type 40 = .ok (.bipush 8, 2) := by decide +kernel
theorem dX12_type_42 : decode cX12_type 42 = .ok (.iload 4, 2) := by decide +kernel
theorem dX12_type_44 : decode cX12_type 44 = .ok (.imul, 1) := by decide +kernel
theorem dX12_type_45 : decode cX12_type 45 = .ok (.lshr, 1) := by decide +kernel
theorem dX12_type_46 : decode cX12_type 46 = .ok (.ldc2_w 356, 3) := by decide +kernel
theorem dX12_type_49 : decode cX12_type 49 = .ok (.land, 1) := by decide +kernel
theorem dX12_type_50 : decode cX12_type 50 = .ok (.lstore 5, 2) := by decide +kernel
theorem dX12_type_52 : decode cX12_type 52 = .ok (.lload 5, 2) := by decide +kernel
theorem dX12_type_54 : decode cX12_type 54 = .ok (.ldc2_w 358, 3) := by decide +kernel
theorem dX12_type_57 : decode cX12_type 57 = .ok (.lcmp, 1) := by decide +kernel
theorem dX12_type_58 : decode cX12_type 58 = .ok (.ifCond .eq 23, 3) := by decide +kernel
theorem dX12_type_61 : decode cX12_type 61 = .ok (.lload 5, 2) := by decide +kernel
theorem dX12_type_63 : decode cX12_type 63 = .ok (.ldc2_w 360, 3) := by decide +kernel
theorem dX12_type_66 : decode cX12_type 66 = .ok (.lcmp, 1) := by decide +kernel
theorem dX12_type_67 : decode cX12_type 67 = .ok (.ifCond .lt 12, 3) := by decide +kernel
theorem dX12_type_70 : decode cX12_type 70 = .ok (.lload 5, 2) := by decide +kernel
theorem dX12_type_72 : decode cX12_type 72 = .ok (.ldc2_w 362, 3) := by decide +kernel
theorem dX12_type_75 : decode cX12_type 75 = .ok (.lcmp, 1) := by decide +kernel
theorem dX12_type_76 : decode cX12_type 76 = .ok (.ifCond .le 5, 3) := by decide +kernel
theorem dX12_type_79 : decode cX12_type 79 = .ok (.iconst 0, 1) := by decide +kernel
theorem dX12_type_80 : decode cX12_type 80 = .ok (.ireturn, 1) := by decide +kernel
theorem dX12_type_81 : decode cX12_type 81 = .ok (.iinc 4 1, 3) := by decide +kernel
theorem dX12_type_84 : decode cX12_type 84 = .ok (.goto (-51), 3) := by decide +kernel
theorem dX12_type_87 : decode cX12_type 87 = .ok (.iconst 0, 1) := by decide +kernel
theorem dX12_type_88 : decode cX12_type 88 = .ok (.istore 4, 2) := by decide +kernel
theorem dX12_type_90 : decode cX12_type 90 = .ok (.iload 4, 2) := by decide +kernel
theorem dX12_type_92 : decode cX12_type 92 = .ok (.iload_n 3, 1) := by decide +kernel
theorem dX12_type_93 : decode cX12_type 93 = .ok (.if_icmp .ge 41, 3) := by decide +kernel
theorem dX12_type_96 : decode cX12_type 96 = .ok (.aload_n 0, 1) := by decide +kernel
theorem dX12_type_97 : decode cX12_type 97 = .ok (.getfield 7, 3) := by decide +kernel
theorem dX12_type_100 : decode cX12_type 100 = .ok (.aload_n 0, 1) := by decide +kernel
theorem dX12_type_101 : decode cX12_type 101 = .ok (.getfield 270, 3) := by decide +kernel
theorem dX12_type_104 : decode cX12_type 104 = .ok (.lload_n 1, 1) := by decide +kernel
theorem dX12_type_105 : decode cX12_type 105 = .ok (.bipush 8, 2) := by decide +kernel
theorem dX12_type_107 : decode cX12_type 107 = .ok (.iload 4, 2) := by decide +kernel
theorem dX12_type_109 : decode cX12_type 109 = .ok (.imul, 1) := by decide +kernel
theorem dX12_type_110 : decode cX12_type 110 = .ok (.lshr, 1) := by decide +kernel
theorem dX12_type_111 : decode cX12_type 111 = .ok (.ldc2_w 356, 3) := by decide +kernel
theorem dX12_type_114 : decode cX12_type 114 = .ok (.land, 1) := by decide +kernel
theorem dX12_type_115 : decode cX12_type 115 = .ok (.l2i, 1) := by decide +kernel
theorem dX12_type_116 : decode cX12_type 116 = .ok (.i2c, 1) := by decide +kernel
theorem dX12_type_117 : decode cX12_type 117 = .ok (.castore, 1) := by decide +kernel
theorem dX12_type_118 : decode cX12_type 118 = .ok (.aload_n 0, 1) := by decide +kernel
theorem dX12_type_119 : decode cX12_type 119 = .ok (.dup, 1) := by decide +kernel
theorem dX12_type_120 : decode cX12_type 120 = .ok (.getfield 270, 3) := by decide +kernel
theorem dX12_type_123 : decode cX12_type 123 = .ok (.iconst 1, 1) := by decide +kernel
theorem dX12_type_124 : decode cX12_type 124 = .ok (.iadd, 1) := by decide +kernel
theorem dX12_type_125 : decode cX12_type 125 = .ok (.putfield 270, 3) := by decide +kernel
theorem dX12_type_128 : decode cX12_type 128 = .ok (.iinc 4 1, 3) := by decide +kernel
theorem dX12_type_131 : decode cX12_type 131 = .ok (.goto (-41), 3) := by decide +kernel
theorem dX12_type_134 : decode cX12_type 134 = .ok (.iconst 1, 1) := by decide +kernel
theorem dX12_type_135 : decode cX12_type 135 = .ok (.ireturn, 1) := by decide +kernel
theorem dX12_cut_0 : decode cX12_cut 0 = .ok (.aload_n 0, 1) := by decide +kernel
theorem dX12_cut_1 : decode cX12_cut 1 = .ok (.iconst 0, 1) := by decide +kernel
theorem dX12_cut_2 : decode cX12_cut 2 = .ok (.putfield 99, 3) := by decide +kernel
theorem dX12_cut_5 : decode cX12_cut 5 = .ok (.iload_n 1, 1) := by decide +kernel
theorem dX12_cut_6 : decode cX12_cut 6 = .ok (.ifCond .lt 11, 3) := by decide +kernel
theorem dX12_cut_9 : decode cX12_cut 9 = .ok (.iload_n 1, 1) := by decide +kernel
theorem dX12_cut_10 : decode cX12_cut 10 = .ok (.aload_n 0, 1) := by decide +kernel
theorem dX12_cut_11 : decode cX12_cut 11 = .ok (.getfield 270, 3) := by decide +kernel
theorem dX12_cut_14 : decode cX12_cut 14 = .ok (.if_icmp .le 5, 3) := by decide +kernel
theorem dX12_cut_17 : decode cX12_cut 17 = .ok (.iconst 0, 1) := by decide +kernel
theorem dX12_cut_18 : decode cX12_cut 18 = .ok (.ireturn, 1) := by decide +kernel
theorem dX12_cut_19 : decode cX12_cut 19 = .ok (.aload_n 0, 1) := by decide +kernel
theorem dX12_cut_20 : decode cX12_cut 20 = .ok (.iload_n 1, 1) := by decide +kernel
theorem dX12_cut_21 : decode cX12_cut 21 = .ok (.putfield 270, 3) := by decide +kernel
theorem dX12_cut_24 : decode cX12_cut 24 = .ok (.iconst 1, 1) := by decide +kernel
theorem dX12_cut_25 : decode cX12_cut 25 = .ok (.ireturn, 1) := by decide +kernel
theorem dX12_ink_0 : decode cX12_ink 0 = .ok (.aload_n 0, 1) := by decide +kernel
theorem dX12_ink_1 : decode cX12_ink 1 = .ok (.getfield 14, 3) := by decide +kernel
theorem dX12_ink_4 : decode cX12_ink 4 = .ok (.aload_n 0, 1) := by decide +kernel
theorem dX12_ink_5 : decode cX12_ink 5 = .ok (.getfield 364, 3) := by decide +kernel
theorem dX12_ink_8 : decode cX12_ink 8 = .ok (.iload_n 1, 1) := by decide +kernel
theorem dX12_ink_9 : decode cX12_ink 9 = .ok (.castore, 1) := by decide +kernel
theorem dX12_ink_10 : decode cX12_ink 10 = .ok (.aload_n 0, 1) := by decide +kernel
theorem dX12_ink_11 : decode cX12_ink 11 = .ok (.dup, 1) := by decide +kernel
theorem dX12_ink_12 : decode cX12_ink 12 = .ok (.getfield 364, 3) := by decide +kernel
theorem dX12_ink_15 : decode cX12_ink 15 = .ok (.iconst 1, 1) := by decide +kernel
theorem dX12_ink_16 : decode cX12_ink 16 = .ok (.iadd, 1) := by decide +kernel
theorem dX12_ink_17 : decode cX12_ink 17 = .ok (.putfield 364, 3) := by decide +kernel
theorem dX12_ink_20 : decode cX12_ink 20 = .ok (.return_, 1) := by decide +kernel
theorem dX12_sayNumber_0 : decode cX12_sayNumber 0 = .ok (.iconst 1, 1) := by decide +kernel
theorem dX12_sayNumber_1 : decode cX12_sayNumber 1 = .ok (.istore_n 2, 1) := by decide +kernel
theorem dX12_sayNumber_2 : decode cX12_sayNumber 2 = .ok (.iload_n 2, 1) := by decide +kernel
theorem dX12_sayNumber_3 : decode cX12_sayNumber 3 = .ok (.bipush 10, 2) := by decide +kernel
theorem dX12_sayNumber_5 : decode cX12_sayNumber 5 = .ok (.imul, 1) := by decide +kernel
theorem dX12_sayNumber_6 : decode cX12_sayNumber 6 = .ok (.iload_n 1, 1) := by decide +kernel
theorem dX12_sayNumber_7 : decode cX12_sayNumber 7 = .ok (.if_icmp .gt 11, 3) := by decide +kernel
theorem dX12_sayNumber_10 : decode cX12_sayNumber 10 = .ok (.iload_n 2, 1) := by decide +kernel
theorem dX12_sayNumber_11 : decode cX12_sayNumber 11 = .ok (.bipush 10, 2) := by decide +kernel
theorem dX12_sayNumber_13 : decode cX12_sayNumber 13 = .ok (.imul, 1) := by decide +kernel
theorem dX12_sayNumber_14 : decode cX12_sayNumber 14 = .ok (.istore_n 2, 1) := by decide +kernel
theorem dX12_sayNumber_15 : decode cX12_sayNumber 15 = .ok (.goto (-13), 3) := by decide +kernel
theorem dX12_sayNumber_18 : decode cX12_sayNumber 18 = .ok (.iload_n 2, 1) := by decide +kernel
theorem dX12_sayNumber_19 : decode cX12_sayNumber 19 = .ok (.ifCond .le 25, 3) := by decide +kernel
theorem dX12_sayNumber_22 : decode cX12_sayNumber 22 = .ok (.aload_n 0, 1) := by decide +kernel
theorem dX12_sayNumber_23 : decode cX12_sayNumber 23 = .ok (.bipush 48, 2) := by decide +kernel
theorem dX12_sayNumber_25 : decode cX12_sayNumber 25 = .ok (.iload_n 1, 1) := by decide +kernel
theorem dX12_sayNumber_26 : decode cX12_sayNumber 26 = .ok (.iload_n 2, 1) := by decide +kernel
theorem dX12_sayNumber_27 : decode cX12_sayNumber 27 = .ok (.idiv, 1) := by decide +kernel
theorem dX12_sayNumber_28 : decode cX12_sayNumber 28 = .ok (.bipush 10, 2) := by decide +kernel
theorem dX12_sayNumber_30 : decode cX12_sayNumber 30 = .ok (.irem, 1) := by decide +kernel
theorem dX12_sayNumber_31 : decode cX12_sayNumber 31 = .ok (.iadd, 1) := by decide +kernel
theorem dX12_sayNumber_32 : decode cX12_sayNumber 32 = .ok (.i2c, 1) := by decide +kernel
theorem dX12_sayNumber_33 : decode cX12_sayNumber 33 = .ok (.invokevirtual 367, 3) := by decide +kernel
theorem dX12_sayNumber_36 : decode cX12_sayNumber 36 = .ok (.iload_n 2, 1) := by decide +kernel
theorem dX12_sayNumber_37 : decode cX12_sayNumber 37 = .ok (.bipush 10, 2) := by decide +kernel
theorem dX12_sayNumber_39 : decode cX12_sayNumber 39 = .ok (.idiv, 1) := by decide +kernel
theorem dX12_sayNumber_40 : decode cX12_sayNumber 40 = .ok (.istore_n 2, 1) := by decide +kernel
theorem dX12_sayNumber_41 : decode cX12_sayNumber 41 = .ok (.goto (-23), 3) := by decide +kernel
theorem dX12_sayNumber_44 : decode cX12_sayNumber 44 = .ok (.return_, 1) := by decide +kernel
theorem dX12_sayRemark_0 : decode cX12_sayRemark 0 = .ok (.aload_n 0, 1) := by decide +kernel
theorem dX12_sayRemark_1 : decode cX12_sayRemark 1 = .ok (.bipush 123, 2) := by decide +kernel
theorem dX12_sayRemark_3 : decode cX12_sayRemark 3 = .ok (.invokevirtual 367, 3) := by decide +kernel
theorem dX12_sayRemark_6 : decode cX12_sayRemark 6 = .ok (.iconst 0, 1) := by decide +kernel
theorem dX12_sayRemark_7 : decode cX12_sayRemark 7 = .ok (.istore_n 2, 1) := by decide +kernel
theorem dX12_sayRemark_8 : decode cX12_sayRemark 8 = .ok (.iload_n 2, 1) := by decide +kernel
theorem dX12_sayRemark_9 : decode cX12_sayRemark 9 = .ok (.aload_n 0, 1) := by decide +kernel
theorem dX12_sayRemark_10 : decode cX12_sayRemark 10 = .ok (.getfield 39, 3) := by decide +kernel
theorem dX12_sayRemark_13 : decode cX12_sayRemark 13 = .ok (.iload_n 1, 1) := by decide +kernel
theorem dX12_sayRemark_14 : decode cX12_sayRemark 14 = .ok (.iaload, 1) := by decide +kernel
theorem dX12_sayRemark_15 : decode cX12_sayRemark 15 = .ok (.if_icmp .ge 25, 3) := by decide +kernel
theorem dX12_sayRemark_18 : decode cX12_sayRemark 18 = .ok (.aload_n 0, 1) := by decide +kernel
theorem dX12_sayRemark_19 : decode cX12_sayRemark 19 = .ok (.aload_n 0, 1) := by decide +kernel
theorem dX12_sayRemark_20 : decode cX12_sayRemark 20 = .ok (.getfield 43, 3) := by decide +kernel
theorem dX12_sayRemark_23 : decode cX12_sayRemark 23 = .ok (.sipush 200, 3) := by decide +kernel
theorem dX12_sayRemark_26 : decode cX12_sayRemark 26 = .ok (.iload_n 1, 1) := by decide +kernel
theorem dX12_sayRemark_27 : decode cX12_sayRemark 27 = .ok (.imul, 1) := by decide +kernel
theorem dX12_sayRemark_28 : decode cX12_sayRemark 28 = .ok (.iload_n 2, 1) := by decide +kernel
theorem dX12_sayRemark_29 : decode cX12_sayRemark 29 = .ok (.iadd, 1) := by decide +kernel
theorem dX12_sayRemark_30 : decode cX12_sayRemark 30 = .ok (.caload, 1) := by decide +kernel
theorem dX12_sayRemark_31 : decode cX12_sayRemark 31 = .ok (.invokevirtual 367, 3) := by decide +kernel
theorem dX12_sayRemark_34 : decode cX12_sayRemark 34 = .ok (.iinc 2 1, 3) := by decide +kernel
theorem dX12_sayRemark_37 : decode cX12_sayRemark 37 = .ok (.goto (-29), 3) := by decide +kernel
theorem dX12_sayRemark_40 : decode cX12_sayRemark 40 = .ok (.aload_n 0, 1) := by decide +kernel
theorem dX12_sayRemark_41 : decode cX12_sayRemark 41 = .ok (.bipush 125, 2) := by decide +kernel
theorem dX12_sayRemark_43 : decode cX12_sayRemark 43 = .ok (.invokevirtual 367, 3) := by decide +kernel
theorem dX12_sayRemark_46 : decode cX12_sayRemark 46 = .ok (.return_, 1) := by decide +kernel
theorem dX12_sayMove_0 : decode cX12_sayMove 0 = .ok (.sipush 301, 3) := by decide +kernel
theorem dX12_sayMove_3 : decode cX12_sayMove 3 = .ok (.aload_n 0, 1) := by decide +kernel
theorem dX12_sayMove_4 : decode cX12_sayMove 4 = .ok (.getfield 347, 3) := by decide +kernel
theorem dX12_sayMove_7 : decode cX12_sayMove 7 = .ok (.imul, 1) := by decide +kernel
theorem dX12_sayMove_8 : decode cX12_sayMove 8 = .ok (.iload_n 1, 1) := by decide +kernel
theorem dX12_sayMove_9 : decode cX12_sayMove 9 = .ok (.iadd, 1) := by decide +kernel
theorem dX12_sayMove_10 : decode cX12_sayMove 10 = .ok (.istore_n 3, 1) := by decide +kernel
theorem dX12_sayMove_11 : decode cX12_sayMove 11 = .ok (.aload_n 0, 1) := by decide +kernel
theorem dX12_sayMove_12 : decode cX12_sayMove 12 = .ok (.aload_n 0, 1) := by decide +kernel
theorem dX12_sayMove_13 : decode cX12_sayMove 13 = .ok (.getfield 347, 3) := by decide +kernel
theorem dX12_sayMove_16 : decode cX12_sayMove 16 = .ok (.aload_n 0, 1) := by decide +kernel
theorem dX12_sayMove_17 : decode cX12_sayMove 17 = .ok (.getfield 21, 3) := by decide +kernel
theorem dX12_sayMove_20 : decode cX12_sayMove 20 = .ok (.iload_n 3, 1) := by decide +kernel
theorem dX12_sayMove_21 : decode cX12_sayMove 21 = .ok (.iaload, 1) := by decide +kernel
theorem dX12_sayMove_22 : decode cX12_sayMove 22 = .ok (.invokevirtual 95, 3) := by decide +kernel
theorem dX12_sayMove_25 : decode cX12_sayMove 25 = .ok (.aload_n 0, 1) := by decide +kernel
theorem dX12_sayMove_26 : decode cX12_sayMove 26 = .ok (.getfield 121, 3) := by decide +kernel
theorem dX12_sayMove_29 : decode cX12_sayMove 29 = .ok (.ifCond .eq 7, 3) := by decide +kernel
theorem dX12_sayMove_32 : decode cX12_sayMove 32 = .ok (.iload_n 2, 1) := by decide +kernel
theorem dX12_sayMove_33 : decode cX12_sayMove 33 = .ok (.ifCond .eq 49, 3) := by decide +kernel
theorem dX12_sayMove_36 : decode cX12_sayMove 36 = .ok (.aload_n 0, 1) := by decide +kernel
theorem dX12_sayMove_37 : decode cX12_sayMove 37 = .ok (.aload_n 0, 1) := by decide +kernel
theorem dX12_sayMove_38 : decode cX12_sayMove 38 = .ok (.getfield 133, 3) := by decide +kernel
theorem dX12_sayMove_41 : decode cX12_sayMove 41 = .ok (.invokevirtual 370, 3) := by decide +kernel
theorem dX12_sayMove_44 : decode cX12_sayMove 44 = .ok (.iconst 0, 1) := by decide +kernel
theorem dX12_sayMove_45 : decode cX12_sayMove 45 = .ok (.istore 4, 2) := by decide +kernel
theorem dX12_sayMove_47 : decode cX12_sayMove 47 = .ok (.iload 4, 2) := by decide +kernel
theorem dX12_sayMove_49 : decode cX12_sayMove 49 = .ok (.aload_n 0, 1) := by decide +kernel
theorem dX12_sayMove_50 : decode cX12_sayMove 50 = .ok (.getfield 121, 3) := by decide +kernel
theorem dX12_sayMove_53 : decode cX12_sayMove 53 = .ok (.ifCond .ne 7, 3) := by decide +kernel
theorem dX12_sayMove_56 : decode cX12_sayMove 56 = .ok (.iconst 1, 1) := by decide +kernel
theorem dX12_sayMove_57 : decode cX12_sayMove 57 = .ok (.goto 4, 3) := by decide +kernel
theorem dX12_sayMove_60 : decode cX12_sayMove 60 = .ok (.iconst 3, 1) := by decide +kernel
theorem dX12_sayMove_61 : decode cX12_sayMove 61 = .ok (.if_icmp .ge 15, 3) := by decide +kernel
theorem dX12_sayMove_64 : decode cX12_sayMove 64 = .ok (.aload_n 0, 1) := by decide +kernel
theorem dX12_sayMove_65 : decode cX12_sayMove 65 = .ok (.bipush 46, 2) := by decide +kernel
theorem dX12_sayMove_67 : decode cX12_sayMove 67 = .ok (.invokevirtual 367, 3) := by decide +kernel
theorem dX12_sayMove_70 : decode cX12_sayMove 70 = .ok (.iinc 4 1, 3) := by decide +kernel
theorem dX12_sayMove_73 : decode cX12_sayMove 73 = .ok (.goto (-26), 3) := by decide +kernel
theorem dX12_sayMove_76 : decode cX12_sayMove 76 = .ok (.aload_n 0, 1) := by decide +kernel
theorem dX12_sayMove_77 : decode cX12_sayMove 77 = .ok (.bipush 32, 2) := by decide +kernel
theorem dX12_sayMove_79 : decode cX12_sayMove 79 = .ok (.invokevirtual 367, 3) := by decide +kernel
theorem dX12_sayMove_82 : decode cX12_sayMove 82 = .ok (.aload_n 0, 1) := by decide +kernel
theorem dX12_sayMove_83 : decode cX12_sayMove 83 = .ok (.aload_n 0, 1) := by decide +kernel
theorem dX12_sayMove_84 : decode cX12_sayMove 84 = .ok (.getfield 24, 3) := by decide +kernel
theorem dX12_sayMove_87 : decode cX12_sayMove 87 = .ok (.iload_n 3, 1) := by decide +kernel
theorem dX12_sayMove_88 : decode cX12_sayMove 88 = .ok (.iaload, 1) := by decide +kernel
theorem dX12_sayMove_89 : decode cX12_sayMove 89 = .ok (.invokevirtual 373, 3) := by decide +kernel
theorem dX12_sayMove_92 : decode cX12_sayMove 92 = .ok (.iconst 0, 1) := by decide +kernel
theorem dX12_sayMove_93 : decode cX12_sayMove 93 = .ok (.istore 4, 2) := by decide +kernel
theorem dX12_sayMove_95 : decode cX12_sayMove 95 = .ok (.iload 4, 2) := by decide +kernel
theorem dX12_sayMove_97 : decode cX12_sayMove 97 = .ok (.aload_n 0, 1) := by decide +kernel
theorem dX12_sayMove_98 : decode cX12_sayMove 98 = .ok (.getfield 191, 3) := by decide +kernel
theorem dX12_sayMove_101 : decode cX12_sayMove 101 = .ok (.if_icmp .ge 20, 3) := by decide +kernel
theorem dX12_sayMove_104 : decode cX12_sayMove 104 = .ok (.aload_n 0, 1) := by decide +kernel
theorem dX12_sayMove_105 : decode cX12_sayMove 105 = .ok (.aload_n 0, 1) := by decide +kernel
theorem dX12_sayMove_106 : decode cX12_sayMove 106 = .ok (.getfield 85, 3) := by decide +kernel
theorem dX12_sayMove_109 : decode cX12_sayMove 109 = .ok (.iload 4, 2) := by decide +kernel
theorem dX12_sayMove_111 : decode cX12_sayMove 111 = .ok (.caload, 1) := by decide +kernel
theorem dX12_sayMove_112 : decode cX12_sayMove 112 = .ok (.invokevirtual 367, 3) := by decide +kernel
theorem dX12_sayMove_115 : decode cX12_sayMove 115 = .ok (.iinc 4 1, 3) := by decide +kernel
theorem dX12_sayMove_118 : decode cX12_sayMove 118 = .ok (.goto (-23), 3) := by decide +kernel
theorem dX12_sayMove_121 : decode cX12_sayMove 121 = .ok (.iconst 0, 1) := by decide +kernel
theorem dX12_sayMove_122 : decode cX12_sayMove 122 = .ok (.istore 4, 2) := by decide +kernel
theorem dX12_sayMove_124 : decode cX12_sayMove 124 = .ok (.iload 4, 2) := by decide +kernel
theorem dX12_sayMove_126 : decode cX12_sayMove 126 = .ok (.aload_n 0, 1) := by decide +kernel
theorem dX12_sayMove_127 : decode cX12_sayMove 127 = .ok (.getfield 33, 3) := by decide +kernel
theorem dX12_sayMove_130 : decode cX12_sayMove 130 = .ok (.iload_n 3, 1) := by decide +kernel
theorem dX12_sayMove_131 : decode cX12_sayMove 131 = .ok (.iaload, 1) := by decide +kernel
theorem dX12_sayMove_132 : decode cX12_sayMove 132 = .ok (.if_icmp .ge 36, 3) := by decide +kernel
theorem dX12_sayMove_135 : decode cX12_sayMove 135 = .ok (.aload_n 0, 1) := by decide +kernel
theorem dX12_sayMove_136 : decode cX12_sayMove 136 = .ok (.bipush 32, 2) := by decide +kernel
theorem dX12_sayMove_138 : decode cX12_sayMove 138 = .ok (.invokevirtual 367, 3) := by decide +kernel
theorem dX12_sayMove_141 : decode cX12_sayMove 141 = .ok (.aload_n 0, 1) := by decide +kernel
theorem dX12_sayMove_142 : decode cX12_sayMove 142 = .ok (.bipush 36, 2) := by decide +kernel
theorem dX12_sayMove_144 : decode cX12_sayMove 144 = .ok (.invokevirtual 367, 3) := by decide +kernel
theorem dX12_sayMove_147 : decode cX12_sayMove 147 = .ok (.aload_n 0, 1) := by decide +kernel
theorem dX12_sayMove_148 : decode cX12_sayMove 148 = .ok (.aload_n 0, 1) := by decide +kernel
theorem dX12_sayMove_149 : decode cX12_sayMove 149 = .ok (.getfield 36, 3) := by decide +kernel
theorem dX12_sayMove_152 : decode cX12_sayMove 152 = .ok (.iconst 4, 1) := by decide +kernel
theorem dX12_sayMove_153 : decode cX12_sayMove 153 = .ok (.iload_n 3, 1) := by decide +kernel
theorem dX12_sayMove_154 : decode cX12_sayMove 154 = .ok (.imul, 1) := by decide +kernel
theorem dX12_sayMove_155 : decode cX12_sayMove 155 = .ok (.iload 4, 2) := by decide +kernel
theorem dX12_sayMove_157 : decode cX12_sayMove 157 = .ok (.iadd, 1) := by decide +kernel
theorem dX12_sayMove_158 : decode cX12_sayMove 158 = .ok (.iaload, 1) := by decide +kernel
theorem dX12_sayMove_159 : decode cX12_sayMove 159 = .ok (.invokevirtual 370, 3) := by decide +kernel
theorem dX12_sayMove_162 : decode cX12_sayMove 162 = .ok (.iinc 4 1, 3) := by decide +kernel
theorem dX12_sayMove_165 : decode cX12_sayMove 165 = .ok (.goto (-41), 3) := by decide +kernel
theorem dX12_sayMove_168 : decode cX12_sayMove 168 = .ok (.aload_n 0, 1) := by decide +kernel
theorem dX12_sayMove_169 : decode cX12_sayMove 169 = .ok (.getfield 39, 3) := by decide +kernel
theorem dX12_sayMove_172 : decode cX12_sayMove 172 = .ok (.iload_n 3, 1) := by decide +kernel
theorem dX12_sayMove_173 : decode cX12_sayMove 173 = .ok (.iaload, 1) := by decide +kernel
theorem dX12_sayMove_174 : decode cX12_sayMove 174 = .ok (.ifCond .le 14, 3) := by decide +kernel
theorem dX12_sayMove_177 : decode cX12_sayMove 177 = .ok (.aload_n 0, 1) := by decide +kernel
theorem dX12_sayMove_178 : decode cX12_sayMove 178 = .ok (.bipush 32, 2) := by decide +kernel
theorem dX12_sayMove_180 : decode cX12_sayMove 180 = .ok (.invokevirtual 367, 3) := by decide +kernel
theorem dX12_sayMove_183 : decode cX12_sayMove 183 = .ok (.aload_n 0, 1) := by decide +kernel
theorem dX12_sayMove_184 : decode cX12_sayMove 184 = .ok (.iload_n 3, 1) := by decide +kernel
theorem dX12_sayMove_185 : decode cX12_sayMove 185 = .ok (.invokevirtual 376, 3) := by decide +kernel
theorem dX12_sayMove_188 : decode cX12_sayMove 188 = .ok (.return_, 1) := by decide +kernel
theorem dX12_sayLine_0 : decode cX12_sayLine 0 = .ok (.iload_n 1, 1) := by decide +kernel
theorem dX12_sayLine_1 : decode cX12_sayLine 1 = .ok (.istore_n 3, 1) := by decide +kernel
theorem dX12_sayLine_2 : decode cX12_sayLine 2 = .ok (.iconst 1, 1) := by decide +kernel
theorem dX12_sayLine_3 : decode cX12_sayLine 3 = .ok (.istore 4, 2) := by decide +kernel
theorem dX12_sayLine_5 : decode cX12_sayLine 5 = .ok (.iload_n 2, 1) := by decide +kernel
theorem dX12_sayLine_6 : decode cX12_sayLine 6 = .ok (.istore 5, 2) := by decide +kernel
theorem dX12_sayLine_8 : decode cX12_sayLine 8 = .ok (.iload_n 3, 1) := by decide +kernel
theorem dX12_sayLine_9 : decode cX12_sayLine 9 = .ok (.ifCond .lt 135, 3) := by decide +kernel
theorem dX12_sayLine_12 : decode cX12_sayLine 12 = .ok (.sipush 301, 3) := by decide +kernel
theorem dX12_sayLine_15 : decode cX12_sayLine 15 = .ok (.aload_n 0, 1) := by decide +kernel
theorem dX12_sayLine_16 : decode cX12_sayLine 16 = .ok (.getfield 347, 3) := by decide +kernel
theorem dX12_sayLine_19 : decode cX12_sayLine 19 = .ok (.imul, 1) := by decide +kernel
theorem dX12_sayLine_20 : decode cX12_sayLine 20 = .ok (.iload_n 3, 1) := by decide +kernel
theorem dX12_sayLine_21 : decode cX12_sayLine 21 = .ok (.iadd, 1) := by decide +kernel
theorem dX12_sayLine_22 : decode cX12_sayLine 22 = .ok (.istore 6, 2) := by decide +kernel
theorem dX12_sayLine_24 : decode cX12_sayLine 24 = .ok (.aload_n 0, 1) := by decide +kernel
theorem dX12_sayLine_25 : decode cX12_sayLine 25 = .ok (.iload_n 3, 1) := by decide +kernel
theorem dX12_sayLine_26 : decode cX12_sayLine 26 = .ok (.iload 4, 2) := by decide +kernel
theorem dX12_sayLine_28 : decode cX12_sayLine 28 = .ok (.invokevirtual 379, 3) := by decide +kernel
theorem dX12_sayLine_31 : decode cX12_sayLine 31 = .ok (.aload_n 0, 1) := by decide +kernel
theorem dX12_sayLine_32 : decode cX12_sayLine 32 = .ok (.getfield 39, 3) := by decide +kernel
theorem dX12_sayLine_35 : decode cX12_sayLine 35 = .ok (.iload 6, 2) := by decide +kernel
theorem dX12_sayLine_37 : decode cX12_sayLine 37 = .ok (.iaload, 1) := by decide +kernel
theorem dX12_sayLine_38 : decode cX12_sayLine 38 = .ok (.ifCond .le 7, 3) := by decide +kernel
theorem dX12_sayLine_41 : decode cX12_sayLine 41 = .ok (.iconst 1, 1) := by decide +kernel
theorem dX12_sayLine_42 : decode cX12_sayLine 42 = .ok (.goto 4, 3) := by decide +kernel
theorem dX12_sayLine_45 : decode cX12_sayLine 45 = .ok (.iconst 0, 1) := by decide +kernel
theorem dX12_sayLine_46 : decode cX12_sayLine 46 = .ok (.istore 4, 2) := by decide +kernel
theorem dX12_sayLine_48 : decode cX12_sayLine 48 = .ok (.iload 5, 2) := by decide +kernel
theorem dX12_sayLine_50 : decode cX12_sayLine 50 = .ok (.ifCond .eq 13, 3) := by decide +kernel
theorem dX12_sayLine_53 : decode cX12_sayLine 53 = .ok (.aload_n 0, 1) := by decide +kernel
theorem dX12_sayLine_54 : decode cX12_sayLine 54 = .ok (.getfield 30, 3) := by decide +kernel
theorem dX12_sayLine_57 : decode cX12_sayLine 57 = .ok (.iload 6, 2) := by decide +kernel
theorem dX12_sayLine_59 : decode cX12_sayLine 59 = .ok (.iaload, 1) := by decide +kernel
theorem dX12_sayLine_60 : decode cX12_sayLine 60 = .ok (.goto 4, 3) := by decide +kernel
theorem dX12_sayLine_63 : decode cX12_sayLine 63 = .ok (.iconst (-1), 1) := by decide +kernel
theorem dX12_sayLine_64 : decode cX12_sayLine 64 = .ok (.istore 7, 2) := by decide +kernel
theorem dX12_sayLine_66 : decode cX12_sayLine 66 = .ok (.iload 7, 2) := by decide +kernel
theorem dX12_sayLine_68 : decode cX12_sayLine 68 = .ok (.ifCond .lt 52, 3) := by decide +kernel
theorem dX12_sayLine_71 : decode cX12_sayLine 71 = .ok (.aload_n 0, 1) := by decide +kernel
theorem dX12_sayLine_72 : decode cX12_sayLine 72 = .ok (.bipush 32, 2) := by decide +kernel
theorem dX12_sayLine_74 : decode cX12_sayLine 74 = .ok (.invokevirtual 367, 3) := by decide +kernel
theorem dX12_sayLine_77 : decode cX12_sayLine 77 = .ok (.aload_n 0, 1) := by decide +kernel
theorem dX12_sayLine_78 : decode cX12_sayLine 78 = .ok (.bipush 40, 2) := by decide +kernel
theorem dX12_sayLine_80 : decode cX12_sayLine 80 = .ok (.invokevirtual 367, 3) := by decide +kernel
theorem dX12_sayLine_83 : decode cX12_sayLine 83 = .ok (.aload_n 0, 1) := by decide +kernel
theorem dX12_sayLine_84 : decode cX12_sayLine 84 = .ok (.iload 7, 2) := by decide +kernel
theorem dX12_sayLine_86 : decode cX12_sayLine 86 = .ok (.iconst 0, 1) := by decide +kernel
theorem dX12_sayLine_87 : decode cX12_sayLine 87 = .ok (.invokevirtual 383, 3) := by decide +kernel
theorem dX12_sayLine_90 : decode cX12_sayLine 90 = .ok (.aload_n 0, 1) := by decide +kernel
theorem dX12_sayLine_91 : decode cX12_sayLine 91 = .ok (.bipush 41, 2) := by decide +kernel
theorem dX12_sayLine_93 : decode cX12_sayLine 93 = .ok (.invokevirtual 367, 3) := by decide +kernel
theorem dX12_sayLine_96 : decode cX12_sayLine 96 = .ok (.iconst 1, 1) := by decide +kernel
theorem dX12_sayLine_97 : decode cX12_sayLine 97 = .ok (.istore 4, 2) := by decide +kernel
theorem dX12_sayLine_99 : decode cX12_sayLine 99 = .ok (.aload_n 0, 1) := by decide +kernel
theorem dX12_sayLine_100 : decode cX12_sayLine 100 = .ok (.getfield 30, 3) := by decide +kernel
theorem dX12_sayLine_103 : decode cX12_sayLine 103 = .ok (.sipush 301, 3) := by decide +kernel
theorem dX12_sayLine_106 : decode cX12_sayLine 106 = .ok (.aload_n 0, 1) := by decide +kernel
theorem dX12_sayLine_107 : decode cX12_sayLine 107 = .ok (.getfield 347, 3) := by decide +kernel
theorem dX12_sayLine_110 : decode cX12_sayLine 110 = .ok (.imul, 1) := by decide +kernel
theorem dX12_sayLine_111 : decode cX12_sayLine 111 = .ok (.iload 7, 2) := by decide +kernel
theorem dX12_sayLine_113 : decode cX12_sayLine 113 = .ok (.iadd, 1) := by decide +kernel
theorem dX12_sayLine_114 : decode cX12_sayLine 114 = .ok (.iaload, 1) := by decide +kernel
theorem dX12_sayLine_115 : decode cX12_sayLine 115 = .ok (.istore 7, 2) := by decide +kernel
theorem dX12_sayLine_117 : decode cX12_sayLine 117 = .ok (.goto (-51), 3) := by decide +kernel
theorem dX12_sayLine_120 : decode cX12_sayLine 120 = .ok (.iconst 1, 1) := by decide +kernel
theorem dX12_sayLine_121 : decode cX12_sayLine 121 = .ok (.istore 5, 2) := by decide +kernel
theorem dX12_sayLine_123 : decode cX12_sayLine 123 = .ok (.aload_n 0, 1) := by decide +kernel
theorem dX12_sayLine_124 : decode cX12_sayLine 124 = .ok (.getfield 27, 3) := by decide +kernel
theorem dX12_sayLine_127 : decode cX12_sayLine 127 = .ok (.iload 6, 2) := by decide +kernel
theorem dX12_sayLine_129 : decode cX12_sayLine 129 = .ok (.iaload, 1) := by decide +kernel
theorem dX12_sayLine_130 : decode cX12_sayLine 130 = .ok (.istore_n 3, 1) := by decide +kernel
theorem dX12_sayLine_131 : decode cX12_sayLine 131 = .ok (.iload_n 3, 1) := by decide +kernel
theorem dX12_sayLine_132 : decode cX12_sayLine 132 = .ok (.ifCond .lt 9, 3) := by decide +kernel
theorem dX12_sayLine_135 : decode cX12_sayLine 135 = .ok (.aload_n 0, 1) := by decide +kernel
theorem dX12_sayLine_136 : decode cX12_sayLine 136 = .ok (.bipush 32, 2) := by decide +kernel
theorem dX12_sayLine_138 : decode cX12_sayLine 138 = .ok (.invokevirtual 367, 3) := by decide +kernel
theorem dX12_sayLine_141 : decode cX12_sayLine 141 = .ok (.goto (-133), 3) := by decide +kernel
theorem dX12_sayLine_144 : decode cX12_sayLine 144 = .ok (.return_, 1) := by decide +kernel
theorem dX12_write_0 : decode cX12_write 0 = .ok (.aload_n 0, 1) := by decide +kernel
theorem dX12_write_1 : decode cX12_write 1 = .ok (.iconst 0, 1) := by decide +kernel
theorem dX12_write_2 : decode cX12_write 2 = .ok (.putfield 99, 3) := by decide +kernel
theorem dX12_write_5 : decode cX12_write 5 = .ok (.aload_n 0, 1) := by decide +kernel
theorem dX12_write_6 : decode cX12_write 6 = .ok (.iconst 0, 1) := by decide +kernel
theorem dX12_write_7 : decode cX12_write 7 = .ok (.putfield 364, 3) := by decide +kernel
theorem dX12_write_10 : decode cX12_write 10 = .ok (.iconst 0, 1) := by decide +kernel
theorem dX12_write_11 : decode cX12_write 11 = .ok (.istore_n 1, 1) := by decide +kernel
theorem dX12_write_12 : decode cX12_write 12 = .ok (.iload_n 1, 1) := by decide +kernel
theorem dX12_write_13 : decode cX12_write 13 = .ok (.aload_n 0, 1) := by decide +kernel
theorem dX12_write_14 : decode cX12_write 14 = .ok (.getfield 52, 3) := by decide +kernel
theorem dX12_write_17 : decode cX12_write 17 = .ok (.aload_n 0, 1) := by decide +kernel
theorem dX12_write_18 : decode cX12_write 18 = .ok (.getfield 347, 3) := by decide +kernel
theorem dX12_write_21 : decode cX12_write 21 = .ok (.iaload, 1) := by decide +kernel
theorem dX12_write_22 : decode cX12_write 22 = .ok (.if_icmp .ge 164, 3) := by decide +kernel
theorem dX12_write_25 : decode cX12_write 25 = .ok (.aload_n 0, 1) := by decide +kernel
theorem dX12_write_26 : decode cX12_write 26 = .ok (.bipush 91, 2) := by decide +kernel
theorem dX12_write_28 : decode cX12_write 28 = .ok (.invokevirtual 367, 3) := by decide +kernel
theorem dX12_write_31 : decode cX12_write 31 = .ok (.iconst 0, 1) := by decide +kernel
theorem dX12_write_32 : decode cX12_write 32 = .ok (.istore_n 2, 1) := by decide +kernel
theorem dX12_write_33 : decode cX12_write 33 = .ok (.iload_n 2, 1) := by decide +kernel
theorem dX12_write_34 : decode cX12_write 34 = .ok (.aload_n 0, 1) := by decide +kernel
theorem dX12_write_35 : decode cX12_write 35 = .ok (.getfield 55, 3) := by decide +kernel
theorem dX12_write_38 : decode cX12_write 38 = .ok (.bipush 8, 2) := by decide +kernel
theorem dX12_write_40 : decode cX12_write 40 = .ok (.aload_n 0, 1) := by decide +kernel
theorem dX12_write_41 : decode cX12_write 41 = .ok (.getfield 347, 3) := by decide +kernel
theorem dX12_write_44 : decode cX12_write 44 = .ok (.imul, 1) := by decide +kernel
theorem dX12_write_45 : decode cX12_write 45 = .ok (.iload_n 1, 1) := by decide +kernel
theorem dX12_write_46 : decode cX12_write 46 = .ok (.iadd, 1) := by decide +kernel
theorem dX12_write_47 : decode cX12_write 47 = .ok (.iaload, 1) := by decide +kernel
theorem dX12_write_48 : decode cX12_write 48 = .ok (.if_icmp .ge 32, 3) := by decide +kernel
theorem dX12_write_51 : decode cX12_write 51 = .ok (.aload_n 0, 1) := by decide +kernel
theorem dX12_write_52 : decode cX12_write 52 = .ok (.aload_n 0, 1) := by decide +kernel
theorem dX12_write_53 : decode cX12_write 53 = .ok (.getfield 58, 3) := by decide +kernel
theorem dX12_write_56 : decode cX12_write 56 = .ok (.bipush 96, 2) := by decide +kernel
theorem dX12_write_58 : decode cX12_write 58 = .ok (.aload_n 0, 1) := by decide +kernel
theorem dX12_write_59 : decode cX12_write 59 = .ok (.getfield 347, 3) := by decide +kernel
theorem dX12_write_62 : decode cX12_write 62 = .ok (.imul, 1) := by decide +kernel
theorem dX12_write_63 : decode cX12_write 63 = .ok (.bipush 12, 2) := by decide +kernel
theorem dX12_write_65 : decode cX12_write 65 = .ok (.iload_n 1, 1) := by decide +kernel
theorem dX12_write_66 : decode cX12_write 66 = .ok (.imul, 1) := by decide +kernel
theorem dX12_write_67 : decode cX12_write 67 = .ok (.iadd, 1) := by decide +kernel
theorem dX12_write_68 : decode cX12_write 68 = .ok (.iload_n 2, 1) := by decide +kernel
theorem dX12_write_69 : decode cX12_write 69 = .ok (.iadd, 1) := by decide +kernel
theorem dX12_write_70 : decode cX12_write 70 = .ok (.caload, 1) := by decide +kernel
theorem dX12_write_71 : decode cX12_write 71 = .ok (.invokevirtual 367, 3) := by decide +kernel
theorem dX12_write_74 : decode cX12_write 74 = .ok (.iinc 2 1, 3) := by decide +kernel
theorem dX12_write_77 : decode cX12_write 77 = .ok (.goto (-44), 3) := by decide +kernel
theorem dX12_write_80 : decode cX12_write 80 = .ok (.aload_n 0, 1) := by decide +kernel
theorem dX12_write_81 : decode cX12_write 81 = .ok (.bipush 32, 2) := by decide +kernel
theorem dX12_write_83 : decode cX12_write 83 = .ok (.invokevirtual 367, 3) := by decide +kernel
theorem dX12_write_86 : decode cX12_write 86 = .ok (.aload_n 0, 1) := by decide +kernel
theorem dX12_write_87 : decode cX12_write 87 = .ok (.bipush 34, 2) := by decide +kernel
theorem dX12_write_89 : decode cX12_write 89 = .ok (.invokevirtual 367, 3) := by decide +kernel
theorem dX12_write_92 : decode cX12_write 92 = .ok (.iconst 0, 1) := by decide +kernel
theorem dX12_write_93 : decode cX12_write 93 = .ok (.istore_n 2, 1) := by decide +kernel
theorem dX12_write_94 : decode cX12_write 94 = .ok (.iload_n 2, 1) := by decide +kernel
theorem dX12_write_95 : decode cX12_write 95 = .ok (.aload_n 0, 1) := by decide +kernel
theorem dX12_write_96 : decode cX12_write 96 = .ok (.getfield 61, 3) := by decide +kernel
theorem dX12_write_99 : decode cX12_write 99 = .ok (.bipush 8, 2) := by decide +kernel
theorem dX12_write_101 : decode cX12_write 101 = .ok (.aload_n 0, 1) := by decide +kernel
theorem dX12_write_102 : decode cX12_write 102 = .ok (.getfield 347, 3) := by decide +kernel
theorem dX12_write_105 : decode cX12_write 105 = .ok (.imul, 1) := by decide +kernel
theorem dX12_write_106 : decode cX12_write 106 = .ok (.iload_n 1, 1) := by decide +kernel
theorem dX12_write_107 : decode cX12_write 107 = .ok (.iadd, 1) := by decide +kernel
theorem dX12_write_108 : decode cX12_write 108 = .ok (.iaload, 1) := by decide +kernel
theorem dX12_write_109 : decode cX12_write 109 = .ok (.if_icmp .ge 53, 3) := by decide +kernel
theorem dX12_write_112 : decode cX12_write 112 = .ok (.aload_n 0, 1) := by decide +kernel
theorem dX12_write_113 : decode cX12_write 113 = .ok (.getfield 64, 3) := by decide +kernel
theorem dX12_write_116 : decode cX12_write 116 = .ok (.sipush 768, 3) := by decide +kernel
theorem dX12_write_119 : decode cX12_write 119 = .ok (.aload_n 0, 1) := by decide +kernel
theorem dX12_write_120 : decode cX12_write 120 = .ok (.getfield 347, 3) := by decide +kernel
theorem dX12_write_123 : decode cX12_write 123 = .ok (.imul, 1) := by decide +kernel
theorem dX12_write_124 : decode cX12_write 124 = .ok (.bipush 96, 2) := by decide +kernel
theorem dX12_write_126 : decode cX12_write 126 = .ok (.iload_n 1, 1) := by decide +kernel
theorem dX12_write_127 : decode cX12_write 127 = .ok (.imul, 1) := by decide +kernel
theorem dX12_write_128 : decode cX12_write 128 = .ok (.iadd, 1) := by decide +kernel
theorem dX12_write_129 : decode cX12_write 129 = .ok (.iload_n 2, 1) := by decide +kernel
theorem dX12_write_130 : decode cX12_write 130 = .ok (.iadd, 1) := by decide +kernel
theorem dX12_write_131 : decode cX12_write 131 = .ok (.caload, 1) := by decide +kernel
theorem dX12_write_132 : decode cX12_write 132 = .ok (.istore_n 3, 1) := by decide +kernel
theorem dX12_write_133 : decode cX12_write 133 = .ok (.iload_n 3, 1) := by decide +kernel
theorem dX12_write_134 : decode cX12_write 134 = .ok (.bipush 34, 2) := by decide +kernel
theorem dX12_write_136 : decode cX12_write 136 = .ok (.if_icmp .eq 9, 3) := by decide +kernel
theorem dX12_write_139 : decode cX12_write 139 = .ok (.iload_n 3, 1) := by decide +kernel
theorem dX12_write_140 : decode cX12_write 140 = .ok (.bipush 92, 2) := by decide +kernel
theorem dX12_write_142 : decode cX12_write 142 = .ok (.if_icmp .ne 9, 3) := by decide +kernel
theorem dX12_write_145 : decode cX12_write 145 = .ok (.aload_n 0, 1) := by decide +kernel
theorem dX12_write_146 : decode cX12_write 146 = .ok (.bipush 92, 2) := by decide +kernel
theorem dX12_write_148 : decode cX12_write 148 = .ok (.invokevirtual 367, 3) := by decide +kernel
theorem dX12_write_151 : decode cX12_write 151 = .ok (.aload_n 0, 1) := by decide +kernel
theorem dX12_write_152 : decode cX12_write 152 = .ok (.iload_n 3, 1) := by decide +kernel
theorem dX12_write_153 : decode cX12_write 153 = .ok (.invokevirtual 367, 3) := by decide +kernel
theorem dX12_write_156 : decode cX12_write 156 = .ok (.iinc 2 1, 3) := by decide +kernel
theorem dX12_write_159 : decode cX12_write 159 = .ok (.goto (-65), 3) := by decide +kernel
theorem dX12_write_162 : decode cX12_write 162 = .ok (.aload_n 0, 1) := by decide +kernel
theorem dX12_write_163 : decode cX12_write 163 = .ok (.bipush 34, 2) := by decide +kernel
theorem dX12_write_165 : decode cX12_write 165 = .ok (.invokevirtual 367, 3) := by decide +kernel
theorem dX12_write_168 : decode cX12_write 168 = .ok (.aload_n 0, 1) := by decide +kernel
theorem dX12_write_169 : decode cX12_write 169 = .ok (.bipush 93, 2) := by decide +kernel
theorem dX12_write_171 : decode cX12_write 171 = .ok (.invokevirtual 367, 3) := by decide +kernel
theorem dX12_write_174 : decode cX12_write 174 = .ok (.aload_n 0, 1) := by decide +kernel
theorem dX12_write_175 : decode cX12_write 175 = .ok (.bipush 10, 2) := by decide +kernel
theorem dX12_write_177 : decode cX12_write 177 = .ok (.invokevirtual 367, 3) := by decide +kernel
theorem dX12_write_180 : decode cX12_write 180 = .ok (.iinc 1 1, 3) := by decide +kernel
theorem dX12_write_183 : decode cX12_write 183 = .ok (.goto (-171), 3) := by decide +kernel
theorem dX12_write_186 : decode cX12_write 186 = .ok (.aload_n 0, 1) := by decide +kernel
theorem dX12_write_187 : decode cX12_write 187 = .ok (.getfield 52, 3) := by decide +kernel
theorem dX12_write_190 : decode cX12_write 190 = .ok (.aload_n 0, 1) := by decide +kernel
theorem dX12_write_191 : decode cX12_write 191 = .ok (.getfield 347, 3) := by decide +kernel
theorem dX12_write_194 : decode cX12_write 194 = .ok (.iaload, 1) := by decide +kernel
theorem dX12_write_195 : decode cX12_write 195 = .ok (.ifCond .le 9, 3) := by decide +kernel
theorem dX12_write_198 : decode cX12_write 198 = .ok (.aload_n 0, 1) := by decide +kernel
theorem dX12_write_199 : decode cX12_write 199 = .ok (.bipush 10, 2) := by decide +kernel
theorem dX12_write_201 : decode cX12_write 201 = .ok (.invokevirtual 367, 3) := by decide +kernel
theorem dX12_write_204 : decode cX12_write 204 = .ok (.aload_n 0, 1) := by decide +kernel
theorem dX12_write_205 : decode cX12_write 205 = .ok (.getfield 39, 3) := by decide +kernel
theorem dX12_write_208 : decode cX12_write 208 = .ok (.sipush 301, 3) := by decide +kernel
theorem dX12_write_211 : decode cX12_write 211 = .ok (.aload_n 0, 1) := by decide +kernel
theorem dX12_write_212 : decode cX12_write 212 = .ok (.getfield 347, 3) := by decide +kernel
theorem dX12_write_215 : decode cX12_write 215 = .ok (.imul, 1) := by decide +kernel
theorem dX12_write_216 : decode cX12_write 216 = .ok (.iaload, 1) := by decide +kernel
theorem dX12_write_217 : decode cX12_write 217 = .ok (.ifCond .le 21, 3) := by decide +kernel
theorem dX12_write_220 : decode cX12_write 220 = .ok (.aload_n 0, 1) := by decide +kernel
theorem dX12_write_221 : decode cX12_write 221 = .ok (.sipush 301, 3) := by decide +kernel
theorem dX12_write_224 : decode cX12_write 224 = .ok (.aload_n 0, 1) := by decide +kernel
theorem dX12_write_225 : decode cX12_write 225 = .ok (.getfield 347, 3) := by decide +kernel
theorem dX12_write_228 : decode cX12_write 228 = .ok (.imul, 1) := by decide +kernel
theorem dX12_write_229 : decode cX12_write 229 = .ok (.invokevirtual 376, 3) := by decide +kernel
theorem dX12_write_232 : decode cX12_write 232 = .ok (.aload_n 0, 1) := by decide +kernel
theorem dX12_write_233 : decode cX12_write 233 = .ok (.bipush 32, 2) := by decide +kernel
theorem dX12_write_235 : decode cX12_write 235 = .ok (.invokevirtual 367, 3) := by decide +kernel
theorem dX12_write_238 : decode cX12_write 238 = .ok (.aload_n 0, 1) := by decide +kernel
theorem dX12_write_239 : decode cX12_write 239 = .ok (.getfield 27, 3) := by decide +kernel
theorem dX12_write_242 : decode cX12_write 242 = .ok (.sipush 301, 3) := by decide +kernel
theorem dX12_write_245 : decode cX12_write 245 = .ok (.aload_n 0, 1) := by decide +kernel
theorem dX12_write_246 : decode cX12_write 246 = .ok (.getfield 347, 3) := by decide +kernel
theorem dX12_write_249 : decode cX12_write 249 = .ok (.imul, 1) := by decide +kernel
theorem dX12_write_250 : decode cX12_write 250 = .ok (.iaload, 1) := by decide +kernel
theorem dX12_write_251 : decode cX12_write 251 = .ok (.ifCond .lt 27, 3) := by decide +kernel
theorem dX12_write_254 : decode cX12_write 254 = .ok (.aload_n 0, 1) := by decide +kernel
theorem dX12_write_255 : decode cX12_write 255 = .ok (.aload_n 0, 1) := by decide +kernel
theorem dX12_write_256 : decode cX12_write 256 = .ok (.getfield 27, 3) := by decide +kernel
theorem dX12_write_259 : decode cX12_write 259 = .ok (.sipush 301, 3) := by decide +kernel
theorem dX12_write_262 : decode cX12_write 262 = .ok (.aload_n 0, 1) := by decide +kernel
theorem dX12_write_263 : decode cX12_write 263 = .ok (.getfield 347, 3) := by decide +kernel
theorem dX12_write_266 : decode cX12_write 266 = .ok (.imul, 1) := by decide +kernel
theorem dX12_write_267 : decode cX12_write 267 = .ok (.iaload, 1) := by decide +kernel
theorem dX12_write_268 : decode cX12_write 268 = .ok (.iconst 1, 1) := by decide +kernel
theorem dX12_write_269 : decode cX12_write 269 = .ok (.invokevirtual 383, 3) := by decide +kernel
theorem dX12_write_272 : decode cX12_write 272 = .ok (.aload_n 0, 1) := by decide +kernel
theorem dX12_write_273 : decode cX12_write 273 = .ok (.bipush 32, 2) := by decide +kernel
theorem dX12_write_275 : decode cX12_write 275 = .ok (.invokevirtual 367, 3) := by decide +kernel
theorem dX12_write_278 : decode cX12_write 278 = .ok (.iconst 0, 1) := by decide +kernel
theorem dX12_write_279 : decode cX12_write 279 = .ok (.istore_n 1, 1) := by decide +kernel
theorem dX12_write_280 : decode cX12_write 280 = .ok (.iload_n 1, 1) := by decide +kernel
theorem dX12_write_281 : decode cX12_write 281 = .ok (.aload_n 0, 1) := by decide +kernel
theorem dX12_write_282 : decode cX12_write 282 = .ok (.getfield 67, 3) := by decide +kernel
theorem dX12_write_285 : decode cX12_write 285 = .ok (.aload_n 0, 1) := by decide +kernel
theorem dX12_write_286 : decode cX12_write 286 = .ok (.getfield 347, 3) := by decide +kernel
theorem dX12_write_289 : decode cX12_write 289 = .ok (.iaload, 1) := by decide +kernel
theorem dX12_write_290 : decode cX12_write 290 = .ok (.invokestatic 340, 3) := by decide +kernel
theorem dX12_write_293 : decode cX12_write 293 = .ok (.if_icmp .ge 26, 3) := by decide +kernel
theorem dX12_write_296 : decode cX12_write 296 = .ok (.aload_n 0, 1) := by decide +kernel
theorem dX12_write_297 : decode cX12_write 297 = .ok (.aload_n 0, 1) := by decide +kernel
theorem dX12_write_298 : decode cX12_write 298 = .ok (.getfield 67, 3) := by decide +kernel
theorem dX12_write_301 : decode cX12_write 301 = .ok (.aload_n 0, 1) := by decide +kernel
theorem dX12_write_302 : decode cX12_write 302 = .ok (.getfield 347, 3) := by decide +kernel
theorem dX12_write_305 : decode cX12_write 305 = .ok (.iaload, 1) := by decide +kernel
theorem dX12_write_306 : decode cX12_write 306 = .ok (.iload_n 1, 1) := by decide +kernel
theorem dX12_write_307 : decode cX12_write 307 = .ok (.invokestatic 343, 3) := by decide +kernel
theorem dX12_write_310 : decode cX12_write 310 = .ok (.invokevirtual 367, 3) := by decide +kernel
theorem dX12_write_313 : decode cX12_write 313 = .ok (.iinc 1 1, 3) := by decide +kernel
theorem dX12_write_316 : decode cX12_write 316 = .ok (.goto (-36), 3) := by decide +kernel
theorem dX12_write_319 : decode cX12_write 319 = .ok (.aload_n 0, 1) := by decide +kernel
theorem dX12_write_320 : decode cX12_write 320 = .ok (.aload_n 0, 1) := by decide +kernel
theorem dX12_write_321 : decode cX12_write 321 = .ok (.getfield 347, 3) := by decide +kernel
theorem dX12_write_324 : decode cX12_write 324 = .ok (.aload_n 0, 1) := by decide +kernel
theorem dX12_write_325 : decode cX12_write 325 = .ok (.getfield 353, 3) := by decide +kernel
theorem dX12_write_328 : decode cX12_write 328 = .ok (.invokevirtual 95, 3) := by decide +kernel
theorem dX12_write_331 : decode cX12_write 331 = .ok (.aload_n 0, 1) := by decide +kernel
theorem dX12_write_332 : decode cX12_write 332 = .ok (.getfield 364, 3) := by decide +kernel
theorem dX12_write_335 : decode cX12_write 335 = .ok (.ireturn, 1) := by decide +kernel
theorem dX12_isLegal_0 : decode cX12_isLegal 0 = .ok (.iconst 0, 1) := by decide +kernel
theorem dX12_isLegal_1 : decode cX12_isLegal 1 = .ok (.istore_n 2, 1) := by decide +kernel
theorem dX12_isLegal_2 : decode cX12_isLegal 2 = .ok (.iconst 0, 1) := by decide +kernel
theorem dX12_isLegal_3 : decode cX12_isLegal 3 = .ok (.istore_n 3, 1) := by decide +kernel
theorem dX12_isLegal_4 : decode cX12_isLegal 4 = .ok (.iload_n 3, 1) := by decide +kernel
theorem dX12_isLegal_5 : decode cX12_isLegal 5 = .ok (.aload_n 0, 1) := by decide +kernel
theorem dX12_isLegal_6 : decode cX12_isLegal 6 = .ok (.getfield 170, 3) := by decide +kernel
theorem dX12_isLegal_9 : decode cX12_isLegal 9 = .ok (.if_icmp .ge 29, 3) := by decide +kernel
theorem dX12_isLegal_12 : decode cX12_isLegal 12 = .ok (.iload_n 2, 1) := by decide +kernel
theorem dX12_isLegal_13 : decode cX12_isLegal 13 = .ok (.ifCond .ne 13, 3) := by decide +kernel
theorem dX12_isLegal_16 : decode cX12_isLegal 16 = .ok (.aload_n 0, 1) := by decide +kernel
theorem dX12_isLegal_17 : decode cX12_isLegal 17 = .ok (.getfield 79, 3) := by decide +kernel
theorem dX12_isLegal_20 : decode cX12_isLegal 20 = .ok (.iload_n 3, 1) := by decide +kernel
theorem dX12_isLegal_21 : decode cX12_isLegal 21 = .ok (.iaload, 1) := by decide +kernel
theorem dX12_isLegal_22 : decode cX12_isLegal 22 = .ok (.iload_n 1, 1) := by decide +kernel
theorem dX12_isLegal_23 : decode cX12_isLegal 23 = .ok (.if_icmp .ne 7, 3) := by decide +kernel
theorem dX12_isLegal_26 : decode cX12_isLegal 26 = .ok (.iconst 1, 1) := by decide +kernel
theorem dX12_isLegal_27 : decode cX12_isLegal 27 = .ok (.goto 4, 3) := by decide +kernel
theorem dX12_isLegal_30 : decode cX12_isLegal 30 = .ok (.iconst 0, 1) := by decide +kernel
theorem dX12_isLegal_31 : decode cX12_isLegal 31 = .ok (.istore_n 2, 1) := by decide +kernel
theorem dX12_isLegal_32 : decode cX12_isLegal 32 = .ok (.iinc 3 1, 3) := by decide +kernel
theorem dX12_isLegal_35 : decode cX12_isLegal 35 = .ok (.goto (-31), 3) := by decide +kernel
theorem dX12_isLegal_38 : decode cX12_isLegal 38 = .ok (.iload_n 2, 1) := by decide +kernel
theorem dX12_isLegal_39 : decode cX12_isLegal 39 = .ok (.ireturn, 1) := by decide +kernel
theorem dX12_signs_0 : decode cX12_signs 0 = .ok (.aload_n 0, 1) := by decide +kernel
theorem dX12_signs_1 : decode cX12_signs 1 = .ok (.aload_n 0, 1) := by decide +kernel
theorem dX12_signs_2 : decode cX12_signs 2 = .ok (.iload_n 1, 1) := by decide +kernel
theorem dX12_signs_3 : decode cX12_signs 3 = .ok (.invokevirtual 386, 3) := by decide +kernel
theorem dX12_signs_6 : decode cX12_signs 6 = .ok (.ifCond .eq 7, 3) := by decide +kernel
theorem dX12_signs_9 : decode cX12_signs 9 = .ok (.iconst 0, 1) := by decide +kernel
theorem dX12_signs_10 : decode cX12_signs 10 = .ok (.goto 4, 3) := by decide +kernel
theorem dX12_signs_13 : decode cX12_signs 13 = .ok (.iconst 1, 1) := by decide +kernel
theorem dX12_signs_14 : decode cX12_signs 14 = .ok (.putfield 99, 3) := by decide +kernel
theorem dX12_signs_17 : decode cX12_signs 17 = .ok (.aload_n 0, 1) := by decide +kernel
theorem dX12_signs_18 : decode cX12_signs 18 = .ok (.getfield 99, 3) := by decide +kernel
theorem dX12_signs_21 : decode cX12_signs 21 = .ok (.ifCond .le 5, 3) := by decide +kernel
theorem dX12_signs_24 : decode cX12_signs 24 = .ok (.iconst 0, 1) := by decide +kernel
theorem dX12_signs_25 : decode cX12_signs 25 = .ok (.ireturn, 1) := by decide +kernel
theorem dX12_signs_26 : decode cX12_signs 26 = .ok (.aload_n 0, 1) := by decide +kernel
theorem dX12_signs_27 : decode cX12_signs 27 = .ok (.iload_n 1, 1) := by decide +kernel
theorem dX12_signs_28 : decode cX12_signs 28 = .ok (.invokevirtual 373, 3) := by decide +kernel
theorem dX12_signs_31 : decode cX12_signs 31 = .ok (.iconst 0, 1) := by decide +kernel
theorem dX12_signs_32 : decode cX12_signs 32 = .ok (.istore_n 2, 1) := by decide +kernel
theorem dX12_signs_33 : decode cX12_signs 33 = .ok (.iload_n 2, 1) := by decide +kernel
theorem dX12_signs_34 : decode cX12_signs 34 = .ok (.aload_n 0, 1) := by decide +kernel
theorem dX12_signs_35 : decode cX12_signs 35 = .ok (.getfield 191, 3) := by decide +kernel
theorem dX12_signs_38 : decode cX12_signs 38 = .ok (.if_icmp .ge 21, 3) := by decide +kernel
theorem dX12_signs_41 : decode cX12_signs 41 = .ok (.aload_n 0, 1) := by decide +kernel
theorem dX12_signs_42 : decode cX12_signs 42 = .ok (.getfield 14, 3) := by decide +kernel
theorem dX12_signs_45 : decode cX12_signs 45 = .ok (.iload_n 2, 1) := by decide +kernel
theorem dX12_signs_46 : decode cX12_signs 46 = .ok (.aload_n 0, 1) := by decide +kernel
theorem dX12_signs_47 : decode cX12_signs 47 = .ok (.getfield 85, 3) := by decide +kernel
theorem dX12_signs_50 : decode cX12_signs 50 = .ok (.iload_n 2, 1) := by decide +kernel
theorem dX12_signs_51 : decode cX12_signs 51 = .ok (.caload, 1) := by decide +kernel
theorem dX12_signs_52 : decode cX12_signs 52 = .ok (.castore, 1) := by decide +kernel
theorem dX12_signs_53 : decode cX12_signs 53 = .ok (.iinc 2 1, 3) := by decide +kernel
theorem dX12_signs_56 : decode cX12_signs 56 = .ok (.goto (-23), 3) := by decide +kernel
theorem dX12_signs_59 : decode cX12_signs 59 = .ok (.aload_n 0, 1) := by decide +kernel
theorem dX12_signs_60 : decode cX12_signs 60 = .ok (.aload_n 0, 1) := by decide +kernel
theorem dX12_signs_61 : decode cX12_signs 61 = .ok (.getfield 191, 3) := by decide +kernel
theorem dX12_signs_64 : decode cX12_signs 64 = .ok (.putfield 364, 3) := by decide +kernel
theorem dX12_signs_67 : decode cX12_signs 67 = .ok (.aload_n 0, 1) := by decide +kernel
theorem dX12_signs_68 : decode cX12_signs 68 = .ok (.getfield 364, 3) := by decide +kernel
theorem dX12_signs_71 : decode cX12_signs 71 = .ok (.ireturn, 1) := by decide +kernel
theorem dX12_out_0 : decode cX12_out 0 = .ok (.aload_n 0, 1) := by decide +kernel
theorem dX12_out_1 : decode cX12_out 1 = .ok (.iconst 0, 1) := by decide +kernel
theorem dX12_out_2 : decode cX12_out 2 = .ok (.putfield 99, 3) := by decide +kernel
theorem dX12_out_5 : decode cX12_out 5 = .ok (.iload_n 1, 1) := by decide +kernel
theorem dX12_out_6 : decode cX12_out 6 = .ok (.ifCond .lt 11, 3) := by decide +kernel
theorem dX12_out_9 : decode cX12_out 9 = .ok (.iload_n 1, 1) := by decide +kernel
theorem dX12_out_10 : decode cX12_out 10 = .ok (.aload_n 0, 1) := by decide +kernel
theorem dX12_out_11 : decode cX12_out 11 = .ok (.getfield 364, 3) := by decide +kernel
theorem dX12_out_14 : decode cX12_out 14 = .ok (.if_icmp .lt 7, 3) := by decide +kernel
theorem dX12_out_17 : decode cX12_out 17 = .ok (.iconst 0, 1) := by decide +kernel
theorem dX12_out_18 : decode cX12_out 18 = .ok (.goto 9, 3) := by decide +kernel
theorem dX12_out_21 : decode cX12_out 21 = .ok (.aload_n 0, 1) := by decide +kernel
theorem dX12_out_22 : decode cX12_out 22 = .ok (.getfield 14, 3) := by decide +kernel
theorem dX12_out_25 : decode cX12_out 25 = .ok (.iload_n 1, 1) := by decide +kernel
theorem dX12_out_26 : decode cX12_out 26 = .ok (.caload, 1) := by decide +kernel
theorem dX12_out_27 : decode cX12_out 27 = .ok (.ireturn, 1) := by decide +kernel
theorem dX12_isNode_0 : decode cX12_isNode 0 = .ok (.iload_n 1, 1) := by decide +kernel
theorem dX12_isNode_1 : decode cX12_isNode 1 = .ok (.ifCond .lt 20, 3) := by decide +kernel
theorem dX12_isNode_4 : decode cX12_isNode 4 = .ok (.iload_n 1, 1) := by decide +kernel
theorem dX12_isNode_5 : decode cX12_isNode 5 = .ok (.aload_n 0, 1) := by decide +kernel
theorem dX12_isNode_6 : decode cX12_isNode 6 = .ok (.getfield 17, 3) := by decide +kernel
theorem dX12_isNode_9 : decode cX12_isNode 9 = .ok (.aload_n 0, 1) := by decide +kernel
theorem dX12_isNode_10 : decode cX12_isNode 10 = .ok (.getfield 347, 3) := by decide +kernel
theorem dX12_isNode_13 : decode cX12_isNode 13 = .ok (.iaload, 1) := by decide +kernel
theorem dX12_isNode_14 : decode cX12_isNode 14 = .ok (.if_icmp .gt 7, 3) := by decide +kernel
theorem dX12_isNode_17 : decode cX12_isNode 17 = .ok (.iconst 1, 1) := by decide +kernel
theorem dX12_isNode_18 : decode cX12_isNode 18 = .ok (.goto 4, 3) := by decide +kernel
theorem dX12_isNode_21 : decode cX12_isNode 21 = .ok (.iconst 0, 1) := by decide +kernel
theorem dX12_isNode_22 : decode cX12_isNode 22 = .ok (.ireturn, 1) := by decide +kernel
theorem dX12_nodes_0 : decode cX12_nodes 0 = .ok (.aload_n 0, 1) := by decide +kernel
theorem dX12_nodes_1 : decode cX12_nodes 1 = .ok (.iconst 0, 1) := by decide +kernel
theorem dX12_nodes_2 : decode cX12_nodes 2 = .ok (.putfield 99, 3) := by decide +kernel
theorem dX12_nodes_5 : decode cX12_nodes 5 = .ok (.aload_n 0, 1) := by decide +kernel
theorem dX12_nodes_6 : decode cX12_nodes 6 = .ok (.getfield 17, 3) := by decide +kernel
theorem dX12_nodes_9 : decode cX12_nodes 9 = .ok (.aload_n 0, 1) := by decide +kernel
theorem dX12_nodes_10 : decode cX12_nodes 10 = .ok (.getfield 347, 3) := by decide +kernel
theorem dX12_nodes_13 : decode cX12_nodes 13 = .ok (.iaload, 1) := by decide +kernel
theorem dX12_nodes_14 : decode cX12_nodes 14 = .ok (.ireturn, 1) := by decide +kernel
theorem dX12_node_0 : decode cX12_node 0 = .ok (.aload_n 0, 1) := by decide +kernel
theorem dX12_node_1 : decode cX12_node 1 = .ok (.aload_n 0, 1) := by decide +kernel
theorem dX12_node_2 : decode cX12_node 2 = .ok (.iload_n 1, 1) := by decide +kernel
theorem dX12_node_3 : decode cX12_node 3 = .ok (.invokevirtual 389, 3) := by decide +kernel
theorem dX12_node_6 : decode cX12_node 6 = .ok (.ifCond .eq 12, 3) := by decide +kernel
theorem dX12_node_9 : decode cX12_node 9 = .ok (.iload_n 2, 1) := by decide +kernel
theorem dX12_node_10 : decode cX12_node 10 = .ok (.ifCond .lt 8, 3) := by decide +kernel
theorem dX12_node_13 : decode cX12_node 13 = .ok (.iload_n 2, 1) := by decide +kernel
theorem dX12_node_14 : decode cX12_node 14 = .ok (.iconst 5, 1) := by decide +kernel
theorem dX12_node_15 : decode cX12_node 15 = .ok (.if_icmp .le 7, 3) := by decide +kernel
theorem dX12_node_18 : decode cX12_node 18 = .ok (.iconst 1, 1) := by decide +kernel
theorem dX12_node_19 : decode cX12_node 19 = .ok (.goto 4, 3) := by decide +kernel
theorem dX12_node_22 : decode cX12_node 22 = .ok (.iconst 0, 1) := by decide +kernel
theorem dX12_node_23 : decode cX12_node 23 = .ok (.putfield 99, 3) := by decide +kernel
theorem dX12_node_26 : decode cX12_node 26 = .ok (.aload_n 0, 1) := by decide +kernel
theorem dX12_node_27 : decode cX12_node 27 = .ok (.getfield 99, 3) := by decide +kernel
theorem dX12_node_30 : decode cX12_node 30 = .ok (.ifCond .le 5, 3) := by decide +kernel
theorem dX12_node_33 : decode cX12_node 33 = .ok (.iconst 0, 1) := by decide +kernel
theorem dX12_node_34 : decode cX12_node 34 = .ok (.ireturn, 1) := by decide +kernel
theorem dX12_node_35 : decode cX12_node 35 = .ok (.sipush 301, 3) := by decide +kernel
theorem dX12_node_38 : decode cX12_node 38 = .ok (.aload_n 0, 1) := by decide +kernel
theorem dX12_node_39 : decode cX12_node 39 = .ok (.getfield 347, 3) := by decide +kernel
theorem dX12_node_42 : decode cX12_node 42 = .ok (.imul, 1) := by decide +kernel
theorem dX12_node_43 : decode cX12_node 43 = .ok (.iload_n 1, 1) := by decide +kernel
theorem dX12_node_44 : decode cX12_node 44 = .ok (.iadd, 1) := by decide +kernel
theorem dX12_node_45 : decode cX12_node 45 = .ok (.istore_n 3, 1) := by decide +kernel
theorem dX12_node_46 : decode cX12_node 46 = .ok (.iload_n 2, 1) := by decide +kernel
theorem dX12_node_47 : decode cX12_node 47 = .ok (.tableswitch 68 0 4 #[33, 40, 47, 54, 61], 33) := by decide +kernel
theorem dX12_node_80 : decode cX12_node 80 = .ok (.aload_n 0, 1) := by decide +kernel
theorem dX12_node_81 : decode cX12_node 81 = .ok (.getfield 21, 3) := by decide +kernel
theorem dX12_node_84 : decode cX12_node 84 = .ok (.iload_n 3, 1) := by decide +kernel
theorem dX12_node_85 : decode cX12_node 85 = .ok (.iaload, 1) := by decide +kernel
theorem dX12_node_86 : decode cX12_node 86 = .ok (.ireturn, 1) := by decide +kernel
theorem dX12_node_87 : decode cX12_node 87 = .ok (.aload_n 0, 1) := by decide +kernel
theorem dX12_node_88 : decode cX12_node 88 = .ok (.getfield 24, 3) := by decide +kernel
theorem dX12_node_91 : decode cX12_node 91 = .ok (.iload_n 3, 1) := by decide +kernel
theorem dX12_node_92 : decode cX12_node 92 = .ok (.iaload, 1) := by decide +kernel
theorem dX12_node_93 : decode cX12_node 93 = .ok (.ireturn, 1) := by decide +kernel
theorem dX12_node_94 : decode cX12_node 94 = .ok (.aload_n 0, 1) := by decide +kernel
theorem dX12_node_95 : decode cX12_node 95 = .ok (.getfield 27, 3) := by decide +kernel
theorem dX12_node_98 : decode cX12_node 98 = .ok (.iload_n 3, 1) := by decide +kernel
theorem dX12_node_99 : decode cX12_node 99 = .ok (.iaload, 1) := by decide +kernel
theorem dX12_node_100 : decode cX12_node 100 = .ok (.ireturn, 1) := by decide +kernel
theorem dX12_node_101 : decode cX12_node 101 = .ok (.aload_n 0, 1) := by decide +kernel
theorem dX12_node_102 : decode cX12_node 102 = .ok (.getfield 30, 3) := by decide +kernel
theorem dX12_node_105 : decode cX12_node 105 = .ok (.iload_n 3, 1) := by decide +kernel
theorem dX12_node_106 : decode cX12_node 106 = .ok (.iaload, 1) := by decide +kernel
theorem dX12_node_107 : decode cX12_node 107 = .ok (.ireturn, 1) := by decide +kernel
theorem dX12_node_108 : decode cX12_node 108 = .ok (.aload_n 0, 1) := by decide +kernel
theorem dX12_node_109 : decode cX12_node 109 = .ok (.getfield 33, 3) := by decide +kernel
theorem dX12_node_112 : decode cX12_node 112 = .ok (.iload_n 3, 1) := by decide +kernel
theorem dX12_node_113 : decode cX12_node 113 = .ok (.iaload, 1) := by decide +kernel
theorem dX12_node_114 : decode cX12_node 114 = .ok (.ireturn, 1) := by decide +kernel
theorem dX12_node_115 : decode cX12_node 115 = .ok (.aload_n 0, 1) := by decide +kernel
theorem dX12_node_116 : decode cX12_node 116 = .ok (.getfield 39, 3) := by decide +kernel
theorem dX12_node_119 : decode cX12_node 119 = .ok (.iload_n 3, 1) := by decide +kernel
theorem dX12_node_120 : decode cX12_node 120 = .ok (.iaload, 1) := by decide +kernel
theorem dX12_node_121 : decode cX12_node 121 = .ok (.ireturn, 1) := by decide +kernel
theorem dX12_mark_0 : decode cX12_mark 0 = .ok (.aload_n 0, 1) := by decide +kernel
theorem dX12_mark_1 : decode cX12_mark 1 = .ok (.aload_n 0, 1) := by decide +kernel
theorem dX12_mark_2 : decode cX12_mark 2 = .ok (.iload_n 1, 1) := by decide +kernel
theorem dX12_mark_3 : decode cX12_mark 3 = .ok (.invokevirtual 389, 3) := by decide +kernel
theorem dX12_mark_6 : decode cX12_mark 6 = .ok (.ifCond .eq 26, 3) := by decide +kernel
theorem dX12_mark_9 : decode cX12_mark 9 = .ok (.iload_n 2, 1) := by decide +kernel
theorem dX12_mark_10 : decode cX12_mark 10 = .ok (.ifCond .lt 22, 3) := by decide +kernel
theorem dX12_mark_13 : decode cX12_mark 13 = .ok (.iload_n 2, 1) := by decide +kernel
theorem dX12_mark_14 : decode cX12_mark 14 = .ok (.aload_n 0, 1) := by decide +kernel
theorem dX12_mark_15 : decode cX12_mark 15 = .ok (.getfield 33, 3) := by decide +kernel
theorem dX12_mark_18 : decode cX12_mark 18 = .ok (.sipush 301, 3) := by decide +kernel
theorem dX12_mark_21 : decode cX12_mark 21 = .ok (.aload_n 0, 1) := by decide +kernel
theorem dX12_mark_22 : decode cX12_mark 22 = .ok (.getfield 347, 3) := by decide +kernel
theorem dX12_mark_25 : decode cX12_mark 25 = .ok (.imul, 1) := by decide +kernel
theorem dX12_mark_26 : decode cX12_mark 26 = .ok (.iload_n 1, 1) := by decide +kernel
theorem dX12_mark_27 : decode cX12_mark 27 = .ok (.iadd, 1) := by decide +kernel
theorem dX12_mark_28 : decode cX12_mark 28 = .ok (.iaload, 1) := by decide +kernel
theorem dX12_mark_29 : decode cX12_mark 29 = .ok (.if_icmp .lt 7, 3) := by decide +kernel
theorem dX12_mark_32 : decode cX12_mark 32 = .ok (.iconst 1, 1) := by decide +kernel
theorem dX12_mark_33 : decode cX12_mark 33 = .ok (.goto 4, 3) := by decide +kernel
theorem dX12_mark_36 : decode cX12_mark 36 = .ok (.iconst 0, 1) := by decide +kernel
theorem dX12_mark_37 : decode cX12_mark 37 = .ok (.putfield 99, 3) := by decide +kernel
theorem dX12_mark_40 : decode cX12_mark 40 = .ok (.aload_n 0, 1) := by decide +kernel
theorem dX12_mark_41 : decode cX12_mark 41 = .ok (.getfield 99, 3) := by decide +kernel
theorem dX12_mark_44 : decode cX12_mark 44 = .ok (.ifCond .le 7, 3) := by decide +kernel
theorem dX12_mark_47 : decode cX12_mark 47 = .ok (.iconst 0, 1) := by decide +kernel
theorem dX12_mark_48 : decode cX12_mark 48 = .ok (.goto 22, 3) := by decide +kernel
theorem dX12_mark_51 : decode cX12_mark 51 = .ok (.aload_n 0, 1) := by decide +kernel
theorem dX12_mark_52 : decode cX12_mark 52 = .ok (.getfield 36, 3) := by decide +kernel
theorem dX12_mark_55 : decode cX12_mark 55 = .ok (.iconst 4, 1) := by decide +kernel
theorem dX12_mark_56 : decode cX12_mark 56 = .ok (.sipush 301, 3) := by decide +kernel
theorem dX12_mark_59 : decode cX12_mark 59 = .ok (.aload_n 0, 1) := by decide +kernel
theorem dX12_mark_60 : decode cX12_mark 60 = .ok (.getfield 347, 3) := by decide +kernel
theorem dX12_mark_63 : decode cX12_mark 63 = .ok (.imul, 1) := by decide +kernel
theorem dX12_mark_64 : decode cX12_mark 64 = .ok (.iload_n 1, 1) := by decide +kernel
theorem dX12_mark_65 : decode cX12_mark 65 = .ok (.iadd, 1) := by decide +kernel
theorem dX12_mark_66 : decode cX12_mark 66 = .ok (.imul, 1) := by decide +kernel
theorem dX12_mark_67 : decode cX12_mark 67 = .ok (.iload_n 2, 1) := by decide +kernel
theorem dX12_mark_68 : decode cX12_mark 68 = .ok (.iadd, 1) := by decide +kernel
theorem dX12_mark_69 : decode cX12_mark 69 = .ok (.iaload, 1) := by decide +kernel
theorem dX12_mark_70 : decode cX12_mark 70 = .ok (.ireturn, 1) := by decide +kernel
theorem dX12_remark_0 : decode cX12_remark 0 = .ok (.aload_n 0, 1) := by decide +kernel
theorem dX12_remark_1 : decode cX12_remark 1 = .ok (.aload_n 0, 1) := by decide +kernel
theorem dX12_remark_2 : decode cX12_remark 2 = .ok (.iload_n 1, 1) := by decide +kernel
theorem dX12_remark_3 : decode cX12_remark 3 = .ok (.invokevirtual 389, 3) := by decide +kernel
theorem dX12_remark_6 : decode cX12_remark 6 = .ok (.ifCond .eq 26, 3) := by decide +kernel
theorem dX12_remark_9 : decode cX12_remark 9 = .ok (.iload_n 2, 1) := by decide +kernel
theorem dX12_remark_10 : decode cX12_remark 10 = .ok (.ifCond .lt 22, 3) := by decide +kernel
theorem dX12_remark_13 : decode cX12_remark 13 = .ok (.iload_n 2, 1) := by decide +kernel
theorem dX12_remark_14 : decode cX12_remark 14 = .ok (.aload_n 0, 1) := by decide +kernel
theorem dX12_remark_15 : decode cX12_remark 15 = .ok (.getfield 39, 3) := by decide +kernel
theorem dX12_remark_18 : decode cX12_remark 18 = .ok (.sipush 301, 3) := by decide +kernel
theorem dX12_remark_21 : decode cX12_remark 21 = .ok (.aload_n 0, 1) := by decide +kernel
theorem dX12_remark_22 : decode cX12_remark 22 = .ok (.getfield 347, 3) := by decide +kernel
theorem dX12_remark_25 : decode cX12_remark 25 = .ok (.imul, 1) := by decide +kernel
theorem dX12_remark_26 : decode cX12_remark 26 = .ok (.iload_n 1, 1) := by decide +kernel
theorem dX12_remark_27 : decode cX12_remark 27 = .ok (.iadd, 1) := by decide +kernel
theorem dX12_remark_28 : decode cX12_remark 28 = .ok (.iaload, 1) := by decide +kernel
theorem dX12_remark_29 : decode cX12_remark 29 = .ok (.if_icmp .lt 7, 3) := by decide +kernel
theorem dX12_remark_32 : decode cX12_remark 32 = .ok (.iconst 1, 1) := by decide +kernel
theorem dX12_remark_33 : decode cX12_remark 33 = .ok (.goto 4, 3) := by decide +kernel
theorem dX12_remark_36 : decode cX12_remark 36 = .ok (.iconst 0, 1) := by decide +kernel
theorem dX12_remark_37 : decode cX12_remark 37 = .ok (.putfield 99, 3) := by decide +kernel
theorem dX12_remark_40 : decode cX12_remark 40 = .ok (.aload_n 0, 1) := by decide +kernel
theorem dX12_remark_41 : decode cX12_remark 41 = .ok (.getfield 99, 3) := by decide +kernel
theorem dX12_remark_44 : decode cX12_remark 44 = .ok (.ifCond .le 7, 3) := by decide +kernel
theorem dX12_remark_47 : decode cX12_remark 47 = .ok (.iconst 0, 1) := by decide +kernel
theorem dX12_remark_48 : decode cX12_remark 48 = .ok (.goto 24, 3) := by decide +kernel
theorem dX12_remark_51 : decode cX12_remark 51 = .ok (.aload_n 0, 1) := by decide +kernel
theorem dX12_remark_52 : decode cX12_remark 52 = .ok (.getfield 43, 3) := by decide +kernel
theorem dX12_remark_55 : decode cX12_remark 55 = .ok (.sipush 200, 3) := by decide +kernel
theorem dX12_remark_58 : decode cX12_remark 58 = .ok (.sipush 301, 3) := by decide +kernel
theorem dX12_remark_61 : decode cX12_remark 61 = .ok (.aload_n 0, 1) := by decide +kernel
theorem dX12_remark_62 : decode cX12_remark 62 = .ok (.getfield 347, 3) := by decide +kernel
theorem dX12_remark_65 : decode cX12_remark 65 = .ok (.imul, 1) := by decide +kernel
theorem dX12_remark_66 : decode cX12_remark 66 = .ok (.iload_n 1, 1) := by decide +kernel
theorem dX12_remark_67 : decode cX12_remark 67 = .ok (.iadd, 1) := by decide +kernel
theorem dX12_remark_68 : decode cX12_remark 68 = .ok (.imul, 1) := by decide +kernel
theorem dX12_remark_69 : decode cX12_remark 69 = .ok (.iload_n 2, 1) := by decide +kernel
theorem dX12_remark_70 : decode cX12_remark 70 = .ok (.iadd, 1) := by decide +kernel
theorem dX12_remark_71 : decode cX12_remark 71 = .ok (.caload, 1) := by decide +kernel
theorem dX12_remark_72 : decode cX12_remark 72 = .ok (.ireturn, 1) := by decide +kernel
theorem dX12_here_0 : decode cX12_here 0 = .ok (.aload_n 0, 1) := by decide +kernel
theorem dX12_here_1 : decode cX12_here 1 = .ok (.iconst 0, 1) := by decide +kernel
theorem dX12_here_2 : decode cX12_here 2 = .ok (.putfield 99, 3) := by decide +kernel
theorem dX12_here_5 : decode cX12_here 5 = .ok (.aload_n 0, 1) := by decide +kernel
theorem dX12_here_6 : decode cX12_here 6 = .ok (.getfield 353, 3) := by decide +kernel
theorem dX12_here_9 : decode cX12_here 9 = .ok (.ireturn, 1) := by decide +kernel
theorem dX12_go_0 : decode cX12_go 0 = .ok (.aload_n 0, 1) := by decide +kernel
theorem dX12_go_1 : decode cX12_go 1 = .ok (.aload_n 0, 1) := by decide +kernel
theorem dX12_go_2 : decode cX12_go 2 = .ok (.iload_n 1, 1) := by decide +kernel
theorem dX12_go_3 : decode cX12_go 3 = .ok (.invokevirtual 389, 3) := by decide +kernel
theorem dX12_go_6 : decode cX12_go 6 = .ok (.ifCond .eq 7, 3) := by decide +kernel
theorem dX12_go_9 : decode cX12_go 9 = .ok (.iconst 0, 1) := by decide +kernel
theorem dX12_go_10 : decode cX12_go 10 = .ok (.goto 4, 3) := by decide +kernel
theorem dX12_go_13 : decode cX12_go 13 = .ok (.iconst 1, 1) := by decide +kernel
theorem dX12_go_14 : decode cX12_go 14 = .ok (.putfield 99, 3) := by decide +kernel
theorem dX12_go_17 : decode cX12_go 17 = .ok (.aload_n 0, 1) := by decide +kernel
theorem dX12_go_18 : decode cX12_go 18 = .ok (.getfield 99, 3) := by decide +kernel
theorem dX12_go_21 : decode cX12_go 21 = .ok (.ifCond .ne 20, 3) := by decide +kernel
theorem dX12_go_24 : decode cX12_go 24 = .ok (.aload_n 0, 1) := by decide +kernel
theorem dX12_go_25 : decode cX12_go 25 = .ok (.iload_n 1, 1) := by decide +kernel
theorem dX12_go_26 : decode cX12_go 26 = .ok (.putfield 353, 3) := by decide +kernel
theorem dX12_go_29 : decode cX12_go 29 = .ok (.aload_n 0, 1) := by decide +kernel
theorem dX12_go_30 : decode cX12_go 30 = .ok (.aload_n 0, 1) := by decide +kernel
theorem dX12_go_31 : decode cX12_go 31 = .ok (.getfield 347, 3) := by decide +kernel
theorem dX12_go_34 : decode cX12_go 34 = .ok (.aload_n 0, 1) := by decide +kernel
theorem dX12_go_35 : decode cX12_go 35 = .ok (.getfield 353, 3) := by decide +kernel
theorem dX12_go_38 : decode cX12_go 38 = .ok (.invokevirtual 95, 3) := by decide +kernel
theorem dX12_go_41 : decode cX12_go 41 = .ok (.return_, 1) := by decide +kernel
theorem dX12_man_0 : decode cX12_man 0 = .ok (.aload_n 0, 1) := by decide +kernel
theorem dX12_man_1 : decode cX12_man 1 = .ok (.iload_n 1, 1) := by decide +kernel
theorem dX12_man_2 : decode cX12_man 2 = .ok (.ifCond .lt 9, 3) := by decide +kernel
theorem dX12_man_5 : decode cX12_man 5 = .ok (.iload_n 1, 1) := by decide +kernel
theorem dX12_man_6 : decode cX12_man 6 = .ok (.bipush 63, 2) := by decide +kernel
theorem dX12_man_8 : decode cX12_man 8 = .ok (.if_icmp .le 7, 3) := by decide +kernel
theorem dX12_man_11 : decode cX12_man 11 = .ok (.iconst 1, 1) := by decide +kernel
theorem dX12_man_12 : decode cX12_man 12 = .ok (.goto 4, 3) := by decide +kernel
theorem dX12_man_15 : decode cX12_man 15 = .ok (.iconst 0, 1) := by decide +kernel
theorem dX12_man_16 : decode cX12_man 16 = .ok (.putfield 99, 3) := by decide +kernel
theorem dX12_man_19 : decode cX12_man 19 = .ok (.aload_n 0, 1) := by decide +kernel
theorem dX12_man_20 : decode cX12_man 20 = .ok (.getfield 99, 3) := by decide +kernel
theorem dX12_man_23 : decode cX12_man 23 = .ok (.ifCond .le 7, 3) := by decide +kernel
theorem dX12_man_26 : decode cX12_man 26 = .ok (.iconst 0, 1) := by decide +kernel
theorem dX12_man_27 : decode cX12_man 27 = .ok (.goto 9, 3) := by decide +kernel
theorem dX12_man_30 : decode cX12_man 30 = .ok (.aload_n 0, 1) := by decide +kernel
theorem dX12_man_31 : decode cX12_man 31 = .ok (.getfield 70, 3) := by decide +kernel
theorem dX12_man_34 : decode cX12_man 34 = .ok (.iload_n 1, 1) := by decide +kernel
theorem dX12_man_35 : decode cX12_man 35 = .ok (.iaload, 1) := by decide +kernel
theorem dX12_man_36 : decode cX12_man 36 = .ok (.ireturn, 1) := by decide +kernel
theorem dX12_move_0 : decode cX12_move 0 = .ok (.aload_n 0, 1) := by decide +kernel
theorem dX12_move_1 : decode cX12_move 1 = .ok (.iconst 0, 1) := by decide +kernel
theorem dX12_move_2 : decode cX12_move 2 = .ok (.putfield 99, 3) := by decide +kernel
theorem dX12_move_5 : decode cX12_move 5 = .ok (.iload_n 1, 1) := by decide +kernel
theorem dX12_move_6 : decode cX12_move 6 = .ok (.ifCond .lt 11, 3) := by decide +kernel
theorem dX12_move_9 : decode cX12_move 9 = .ok (.iload_n 1, 1) := by decide +kernel
theorem dX12_move_10 : decode cX12_move 10 = .ok (.aload_n 0, 1) := by decide +kernel
theorem dX12_move_11 : decode cX12_move 11 = .ok (.getfield 170, 3) := by decide +kernel
theorem dX12_move_14 : decode cX12_move 14 = .ok (.if_icmp .lt 7, 3) := by decide +kernel
theorem dX12_move_17 : decode cX12_move 17 = .ok (.iconst (-1), 1) := by decide +kernel
theorem dX12_move_18 : decode cX12_move 18 = .ok (.goto 9, 3) := by decide +kernel
theorem dX12_move_21 : decode cX12_move 21 = .ok (.aload_n 0, 1) := by decide +kernel
theorem dX12_move_22 : decode cX12_move 22 = .ok (.getfield 79, 3) := by decide +kernel
theorem dX12_move_25 : decode cX12_move 25 = .ok (.iload_n 1, 1) := by decide +kernel
theorem dX12_move_26 : decode cX12_move 26 = .ok (.iaload, 1) := by decide +kernel
theorem dX12_move_27 : decode cX12_move 27 = .ok (.ireturn, 1) := by decide +kernel
theorem dX12_add_0 : decode cX12_add 0 = .ok (.aload_n 0, 1) := by decide +kernel
theorem dX12_add_1 : decode cX12_add 1 = .ok (.aload_n 0, 1) := by decide +kernel
theorem dX12_add_2 : decode cX12_add 2 = .ok (.iload_n 1, 1) := by decide +kernel
theorem dX12_add_3 : decode cX12_add 3 = .ok (.invokevirtual 386, 3) := by decide +kernel
theorem dX12_add_6 : decode cX12_add 6 = .ok (.ifCond .eq 7, 3) := by decide +kernel
theorem dX12_add_9 : decode cX12_add 9 = .ok (.iconst 0, 1) := by decide +kernel
theorem dX12_add_10 : decode cX12_add 10 = .ok (.goto 4, 3) := by decide +kernel
theorem dX12_add_13 : decode cX12_add 13 = .ok (.iconst 1, 1) := by decide +kernel
theorem dX12_add_14 : decode cX12_add 14 = .ok (.putfield 99, 3) := by decide +kernel
theorem dX12_add_17 : decode cX12_add 17 = .ok (.aload_n 0, 1) := by decide +kernel
theorem dX12_add_18 : decode cX12_add 18 = .ok (.getfield 99, 3) := by decide +kernel
theorem dX12_add_21 : decode cX12_add 21 = .ok (.ifCond .le 5, 3) := by decide +kernel
theorem dX12_add_24 : decode cX12_add 24 = .ok (.iconst 0, 1) := by decide +kernel
theorem dX12_add_25 : decode cX12_add 25 = .ok (.ireturn, 1) := by decide +kernel
theorem dX12_add_26 : decode cX12_add 26 = .ok (.aload_n 0, 1) := by decide +kernel
theorem dX12_add_27 : decode cX12_add 27 = .ok (.aload_n 0, 1) := by decide +kernel
theorem dX12_add_28 : decode cX12_add 28 = .ok (.getfield 347, 3) := by decide +kernel
theorem dX12_add_31 : decode cX12_add 31 = .ok (.aload_n 0, 1) := by decide +kernel
theorem dX12_add_32 : decode cX12_add 32 = .ok (.getfield 353, 3) := by decide +kernel
theorem dX12_add_35 : decode cX12_add 35 = .ok (.iload_n 1, 1) := by decide +kernel
theorem dX12_add_36 : decode cX12_add 36 = .ok (.invokevirtual 310, 3) := by decide +kernel
theorem dX12_add_39 : decode cX12_add 39 = .ok (.istore_n 2, 1) := by decide +kernel
theorem dX12_add_40 : decode cX12_add 40 = .ok (.iload_n 2, 1) := by decide +kernel
theorem dX12_add_41 : decode cX12_add 41 = .ok (.ifCond .ge 96, 3) := by decide +kernel
theorem dX12_add_44 : decode cX12_add 44 = .ok (.aload_n 0, 1) := by decide +kernel
theorem dX12_add_45 : decode cX12_add 45 = .ok (.aload_n 0, 1) := by decide +kernel
theorem dX12_add_46 : decode cX12_add 46 = .ok (.getfield 347, 3) := by decide +kernel
theorem dX12_add_49 : decode cX12_add 49 = .ok (.aload_n 0, 1) := by decide +kernel
theorem dX12_add_50 : decode cX12_add 50 = .ok (.getfield 353, 3) := by decide +kernel
theorem dX12_add_53 : decode cX12_add 53 = .ok (.invokevirtual 392, 3) := by decide +kernel
theorem dX12_add_56 : decode cX12_add 56 = .ok (.aload_n 0, 1) := by decide +kernel
theorem dX12_add_57 : decode cX12_add 57 = .ok (.getfield 27, 3) := by decide +kernel
theorem dX12_add_60 : decode cX12_add 60 = .ok (.sipush 301, 3) := by decide +kernel
theorem dX12_add_63 : decode cX12_add 63 = .ok (.aload_n 0, 1) := by decide +kernel
theorem dX12_add_64 : decode cX12_add 64 = .ok (.getfield 347, 3) := by decide +kernel
theorem dX12_add_67 : decode cX12_add 67 = .ok (.imul, 1) := by decide +kernel
theorem dX12_add_68 : decode cX12_add 68 = .ok (.aload_n 0, 1) := by decide +kernel
theorem dX12_add_69 : decode cX12_add 69 = .ok (.getfield 353, 3) := by decide +kernel
theorem dX12_add_72 : decode cX12_add 72 = .ok (.iadd, 1) := by decide +kernel
theorem dX12_add_73 : decode cX12_add 73 = .ok (.iaload, 1) := by decide +kernel
theorem dX12_add_74 : decode cX12_add 74 = .ok (.ifCond .lt 7, 3) := by decide +kernel
theorem dX12_add_77 : decode cX12_add 77 = .ok (.iconst 1, 1) := by decide +kernel
theorem dX12_add_78 : decode cX12_add 78 = .ok (.goto 4, 3) := by decide +kernel
theorem dX12_add_81 : decode cX12_add 81 = .ok (.iconst 0, 1) := by decide +kernel
theorem dX12_add_82 : decode cX12_add 82 = .ok (.iadd, 1) := by decide +kernel
theorem dX12_add_83 : decode cX12_add 83 = .ok (.istore_n 3, 1) := by decide +kernel
theorem dX12_add_84 : decode cX12_add 84 = .ok (.aload_n 0, 1) := by decide +kernel
theorem dX12_add_85 : decode cX12_add 85 = .ok (.aload_n 0, 1) := by decide +kernel
theorem dX12_add_86 : decode cX12_add 86 = .ok (.getfield 17, 3) := by decide +kernel
theorem dX12_add_89 : decode cX12_add 89 = .ok (.aload_n 0, 1) := by decide +kernel
theorem dX12_add_90 : decode cX12_add 90 = .ok (.getfield 347, 3) := by decide +kernel
theorem dX12_add_93 : decode cX12_add 93 = .ok (.iaload, 1) := by decide +kernel
theorem dX12_add_94 : decode cX12_add 94 = .ok (.sipush 300, 3) := by decide +kernel
theorem dX12_add_97 : decode cX12_add 97 = .ok (.if_icmp .eq 9, 3) := by decide +kernel
theorem dX12_add_100 : decode cX12_add 100 = .ok (.iload_n 3, 1) := by decide +kernel
theorem dX12_add_101 : decode cX12_add 101 = .ok (.bipush 6, 2) := by decide +kernel
theorem dX12_add_103 : decode cX12_add 103 = .ok (.if_icmp .le 7, 3) := by decide +kernel
theorem dX12_add_106 : decode cX12_add 106 = .ok (.iconst 2, 1) := by decide +kernel
theorem dX12_add_107 : decode cX12_add 107 = .ok (.goto 4, 3) := by decide +kernel
theorem dX12_add_110 : decode cX12_add 110 = .ok (.iconst 0, 1) := by decide +kernel
theorem dX12_add_111 : decode cX12_add 111 = .ok (.putfield 99, 3) := by decide +kernel
theorem dX12_add_114 : decode cX12_add 114 = .ok (.aload_n 0, 1) := by decide +kernel
theorem dX12_add_115 : decode cX12_add 115 = .ok (.getfield 99, 3) := by decide +kernel
theorem dX12_add_118 : decode cX12_add 118 = .ok (.ifCond .le 5, 3) := by decide +kernel
theorem dX12_add_121 : decode cX12_add 121 = .ok (.iconst 0, 1) := by decide +kernel
theorem dX12_add_122 : decode cX12_add 122 = .ok (.ireturn, 1) := by decide +kernel
theorem dX12_add_123 : decode cX12_add 123 = .ok (.aload_n 0, 1) := by decide +kernel
theorem dX12_add_124 : decode cX12_add 124 = .ok (.aload_n 0, 1) := by decide +kernel
theorem dX12_add_125 : decode cX12_add 125 = .ok (.getfield 347, 3) := by decide +kernel
theorem dX12_add_128 : decode cX12_add 128 = .ok (.aload_n 0, 1) := by decide +kernel
theorem dX12_add_129 : decode cX12_add 129 = .ok (.getfield 353, 3) := by decide +kernel
theorem dX12_add_132 : decode cX12_add 132 = .ok (.iload_n 1, 1) := by decide +kernel
theorem dX12_add_133 : decode cX12_add 133 = .ok (.invokevirtual 313, 3) := by decide +kernel
theorem dX12_add_136 : decode cX12_add 136 = .ok (.istore_n 2, 1) := by decide +kernel
theorem dX12_add_137 : decode cX12_add 137 = .ok (.aload_n 0, 1) := by decide +kernel
theorem dX12_add_138 : decode cX12_add 138 = .ok (.iload_n 2, 1) := by decide +kernel
theorem dX12_add_139 : decode cX12_add 139 = .ok (.putfield 353, 3) := by decide +kernel
theorem dX12_add_142 : decode cX12_add 142 = .ok (.aload_n 0, 1) := by decide +kernel
theorem dX12_add_143 : decode cX12_add 143 = .ok (.aload_n 0, 1) := by decide +kernel
theorem dX12_add_144 : decode cX12_add 144 = .ok (.getfield 347, 3) := by decide +kernel
theorem dX12_add_147 : decode cX12_add 147 = .ok (.aload_n 0, 1) := by decide +kernel
theorem dX12_add_148 : decode cX12_add 148 = .ok (.getfield 353, 3) := by decide +kernel
theorem dX12_add_151 : decode cX12_add 151 = .ok (.invokevirtual 95, 3) := by decide +kernel
theorem dX12_add_154 : decode cX12_add 154 = .ok (.iload_n 2, 1) := by decide +kernel
theorem dX12_add_155 : decode cX12_add 155 = .ok (.ireturn, 1) := by decide +kernel
theorem dX12_addMark_0 : decode cX12_addMark 0 = .ok (.aload_n 0, 1) := by decide +kernel
theorem dX12_addMark_1 : decode cX12_addMark 1 = .ok (.iload_n 1, 1) := by decide +kernel
theorem dX12_addMark_2 : decode cX12_addMark 2 = .ok (.ifCond .lt 10, 3) := by decide +kernel
theorem dX12_addMark_5 : decode cX12_addMark 5 = .ok (.iload_n 1, 1) := by decide +kernel
theorem dX12_addMark_6 : decode cX12_addMark 6 = .ok (.sipush 255, 3) := by decide +kernel
theorem dX12_addMark_9 : decode cX12_addMark 9 = .ok (.if_icmp .le 7, 3) := by decide +kernel
theorem dX12_addMark_12 : decode cX12_addMark 12 = .ok (.iconst 1, 1) := by decide +kernel
theorem dX12_addMark_13 : decode cX12_addMark 13 = .ok (.goto 37, 3) := by decide +kernel
theorem dX12_addMark_16 : decode cX12_addMark 16 = .ok (.aload_n 0, 1) := by decide +kernel
theorem dX12_addMark_17 : decode cX12_addMark 17 = .ok (.getfield 353, 3) := by decide +kernel
theorem dX12_addMark_20 : decode cX12_addMark 20 = .ok (.ifCond .eq 25, 3) := by decide +kernel
theorem dX12_addMark_23 : decode cX12_addMark 23 = .ok (.aload_n 0, 1) := by decide +kernel
theorem dX12_addMark_24 : decode cX12_addMark 24 = .ok (.getfield 33, 3) := by decide +kernel
theorem dX12_addMark_27 : decode cX12_addMark 27 = .ok (.sipush 301, 3) := by decide +kernel
theorem dX12_addMark_30 : decode cX12_addMark 30 = .ok (.aload_n 0, 1) := by decide +kernel
theorem dX12_addMark_31 : decode cX12_addMark 31 = .ok (.getfield 347, 3) := by decide +kernel
theorem dX12_addMark_34 : decode cX12_addMark 34 = .ok (.imul, 1) := by decide +kernel
theorem dX12_addMark_35 : decode cX12_addMark 35 = .ok (.aload_n 0, 1) := by decide +kernel
theorem dX12_addMark_36 : decode cX12_addMark 36 = .ok (.getfield 353, 3) := by decide +kernel
theorem dX12_addMark_39 : decode cX12_addMark 39 = .ok (.iadd, 1) := by decide +kernel
theorem dX12_addMark_40 : decode cX12_addMark 40 = .ok (.iaload, 1) := by decide +kernel
theorem dX12_addMark_41 : decode cX12_addMark 41 = .ok (.iconst 4, 1) := by decide +kernel
theorem dX12_addMark_42 : decode cX12_addMark 42 = .ok (.if_icmp .ne 7, 3) := by decide +kernel
theorem dX12_addMark_45 : decode cX12_addMark 45 = .ok (.iconst 2, 1) := by decide +kernel
theorem dX12_addMark_46 : decode cX12_addMark 46 = .ok (.goto 4, 3) := by decide +kernel
theorem dX12_addMark_49 : decode cX12_addMark 49 = .ok (.iconst 0, 1) := by decide +kernel
theorem dX12_addMark_50 : decode cX12_addMark 50 = .ok (.putfield 99, 3) := by decide +kernel
theorem dX12_addMark_53 : decode cX12_addMark 53 = .ok (.aload_n 0, 1) := by decide +kernel
theorem dX12_addMark_54 : decode cX12_addMark 54 = .ok (.getfield 99, 3) := by decide +kernel
theorem dX12_addMark_57 : decode cX12_addMark 57 = .ok (.ifCond .le 5, 3) := by decide +kernel
theorem dX12_addMark_60 : decode cX12_addMark 60 = .ok (.iconst 0, 1) := by decide +kernel
theorem dX12_addMark_61 : decode cX12_addMark 61 = .ok (.ireturn, 1) := by decide +kernel
theorem dX12_addMark_62 : decode cX12_addMark 62 = .ok (.aload_n 0, 1) := by decide +kernel
theorem dX12_addMark_63 : decode cX12_addMark 63 = .ok (.aload_n 0, 1) := by decide +kernel
theorem dX12_addMark_64 : decode cX12_addMark 64 = .ok (.getfield 347, 3) := by decide +kernel
theorem dX12_addMark_67 : decode cX12_addMark 67 = .ok (.aload_n 0, 1) := by decide +kernel
theorem dX12_addMark_68 : decode cX12_addMark 68 = .ok (.getfield 353, 3) := by decide +kernel
theorem dX12_addMark_71 : decode cX12_addMark 71 = .ok (.iload_n 1, 1) := by decide +kernel
theorem dX12_addMark_72 : decode cX12_addMark 72 = .ok (.invokevirtual 303, 3) := by decide +kernel
theorem dX12_addMark_75 : decode cX12_addMark 75 = .ok (.aload_n 0, 1) := by decide +kernel
theorem dX12_addMark_76 : decode cX12_addMark 76 = .ok (.getfield 33, 3) := by decide +kernel
theorem dX12_addMark_79 : decode cX12_addMark 79 = .ok (.sipush 301, 3) := by decide +kernel
theorem dX12_addMark_82 : decode cX12_addMark 82 = .ok (.aload_n 0, 1) := by decide +kernel
theorem dX12_addMark_83 : decode cX12_addMark 83 = .ok (.getfield 347, 3) := by decide +kernel
theorem dX12_addMark_86 : decode cX12_addMark 86 = .ok (.imul, 1) := by decide +kernel
theorem dX12_addMark_87 : decode cX12_addMark 87 = .ok (.aload_n 0, 1) := by decide +kernel
theorem dX12_addMark_88 : decode cX12_addMark 88 = .ok (.getfield 353, 3) := by decide +kernel
theorem dX12_addMark_91 : decode cX12_addMark 91 = .ok (.iadd, 1) := by decide +kernel
theorem dX12_addMark_92 : decode cX12_addMark 92 = .ok (.iaload, 1) := by decide +kernel
theorem dX12_addMark_93 : decode cX12_addMark 93 = .ok (.ireturn, 1) := by decide +kernel
theorem dX12_say_0 : decode cX12_say 0 = .ok (.aload_n 0, 1) := by decide +kernel
theorem dX12_say_1 : decode cX12_say 1 = .ok (.getfield 270, 3) := by decide +kernel
theorem dX12_say_4 : decode cX12_say 4 = .ok (.sipush 200, 3) := by decide +kernel
theorem dX12_say_7 : decode cX12_say 7 = .ok (.if_icmp .gt 7, 3) := by decide +kernel
theorem dX12_say_10 : decode cX12_say 10 = .ok (.iconst 1, 1) := by decide +kernel
theorem dX12_say_11 : decode cX12_say 11 = .ok (.goto 4, 3) := by decide +kernel
theorem dX12_say_14 : decode cX12_say 14 = .ok (.iconst 0, 1) := by decide +kernel
theorem dX12_say_15 : decode cX12_say 15 = .ok (.istore_n 1, 1) := by decide +kernel
theorem dX12_say_16 : decode cX12_say 16 = .ok (.iconst 0, 1) := by decide +kernel
theorem dX12_say_17 : decode cX12_say 17 = .ok (.istore_n 2, 1) := by decide +kernel
theorem dX12_say_18 : decode cX12_say 18 = .ok (.iload_n 2, 1) := by decide +kernel
theorem dX12_say_19 : decode cX12_say 19 = .ok (.aload_n 0, 1) := by decide +kernel
theorem dX12_say_20 : decode cX12_say 20 = .ok (.getfield 270, 3) := by decide +kernel
theorem dX12_say_23 : decode cX12_say 23 = .ok (.if_icmp .ge 41, 3) := by decide +kernel
theorem dX12_say_26 : decode cX12_say 26 = .ok (.iload_n 1, 1) := by decide +kernel
theorem dX12_say_27 : decode cX12_say 27 = .ok (.ifCond .eq 29, 3) := by decide +kernel
theorem dX12_say_30 : decode cX12_say 30 = .ok (.aload_n 0, 1) := by decide +kernel
theorem dX12_say_31 : decode cX12_say 31 = .ok (.getfield 7, 3) := by decide +kernel
theorem dX12_say_34 : decode cX12_say 34 = .ok (.iload_n 2, 1) := by decide +kernel
theorem dX12_say_35 : decode cX12_say 35 = .ok (.caload, 1) := by decide +kernel
theorem dX12_say_36 : decode cX12_say 36 = .ok (.bipush 125, 2) := by decide +kernel
theorem dX12_say_38 : decode cX12_say 38 = .ok (.if_icmp .eq 18, 3) := by decide +kernel
theorem dX12_say_41 : decode cX12_say 41 = .ok (.aload_n 0, 1) := by decide +kernel
theorem dX12_say_42 : decode cX12_say 42 = .ok (.getfield 7, 3) := by decide +kernel
theorem dX12_say_45 : decode cX12_say 45 = .ok (.iload_n 2, 1) := by decide +kernel
theorem dX12_say_46 : decode cX12_say 46 = .ok (.caload, 1) := by decide +kernel
theorem dX12_say_47 : decode cX12_say 47 = .ok (.bipush 10, 2) := by decide +kernel
theorem dX12_say_49 : decode cX12_say 49 = .ok (.if_icmp .eq 7, 3) := by decide +kernel
theorem dX12_say_52 : decode cX12_say 52 = .ok (.iconst 1, 1) := by decide +kernel
theorem dX12_say_53 : decode cX12_say 53 = .ok (.goto 4, 3) := by decide +kernel
theorem dX12_say_56 : decode cX12_say 56 = .ok (.iconst 0, 1) := by decide +kernel
theorem dX12_say_57 : decode cX12_say 57 = .ok (.istore_n 1, 1) := by decide +kernel
theorem dX12_say_58 : decode cX12_say 58 = .ok (.iinc 2 1, 3) := by decide +kernel
theorem dX12_say_61 : decode cX12_say 61 = .ok (.goto (-43), 3) := by decide +kernel
theorem dX12_say_64 : decode cX12_say 64 = .ok (.aload_n 0, 1) := by decide +kernel
theorem dX12_say_65 : decode cX12_say 65 = .ok (.iload_n 1, 1) := by decide +kernel
theorem dX12_say_66 : decode cX12_say 66 = .ok (.ifCond .eq 7, 3) := by decide +kernel
theorem dX12_say_69 : decode cX12_say 69 = .ok (.iconst 0, 1) := by decide +kernel
theorem dX12_say_70 : decode cX12_say 70 = .ok (.goto 4, 3) := by decide +kernel
theorem dX12_say_73 : decode cX12_say 73 = .ok (.iconst 1, 1) := by decide +kernel
theorem dX12_say_74 : decode cX12_say 74 = .ok (.putfield 99, 3) := by decide +kernel
theorem dX12_say_77 : decode cX12_say 77 = .ok (.aload_n 0, 1) := by decide +kernel
theorem dX12_say_78 : decode cX12_say 78 = .ok (.getfield 99, 3) := by decide +kernel
theorem dX12_say_81 : decode cX12_say 81 = .ok (.ifCond .le 5, 3) := by decide +kernel
theorem dX12_say_84 : decode cX12_say 84 = .ok (.iconst 0, 1) := by decide +kernel
theorem dX12_say_85 : decode cX12_say 85 = .ok (.ireturn, 1) := by decide +kernel
theorem dX12_say_86 : decode cX12_say 86 = .ok (.sipush 301, 3) := by decide +kernel
theorem dX12_say_89 : decode cX12_say 89 = .ok (.aload_n 0, 1) := by decide +kernel
theorem dX12_say_90 : decode cX12_say 90 = .ok (.getfield 347, 3) := by decide +kernel
theorem dX12_say_93 : decode cX12_say 93 = .ok (.imul, 1) := by decide +kernel
theorem dX12_say_94 : decode cX12_say 94 = .ok (.aload_n 0, 1) := by decide +kernel
theorem dX12_say_95 : decode cX12_say 95 = .ok (.getfield 353, 3) := by decide +kernel
theorem dX12_say_98 : decode cX12_say 98 = .ok (.iadd, 1) := by decide +kernel
theorem dX12_say_99 : decode cX12_say 99 = .ok (.istore_n 2, 1) := by decide +kernel
theorem dX12_say_100 : decode cX12_say 100 = .ok (.iconst 0, 1) := by decide +kernel
theorem dX12_say_101 : decode cX12_say 101 = .ok (.istore_n 3, 1) := by decide +kernel
theorem dX12_say_102 : decode cX12_say 102 = .ok (.iload_n 3, 1) := by decide +kernel
theorem dX12_say_103 : decode cX12_say 103 = .ok (.aload_n 0, 1) := by decide +kernel
theorem dX12_say_104 : decode cX12_say 104 = .ok (.getfield 270, 3) := by decide +kernel
theorem dX12_say_107 : decode cX12_say 107 = .ok (.if_icmp .ge 27, 3) := by decide +kernel
theorem dX12_say_110 : decode cX12_say 110 = .ok (.aload_n 0, 1) := by decide +kernel
theorem dX12_say_111 : decode cX12_say 111 = .ok (.getfield 43, 3) := by decide +kernel
theorem dX12_say_114 : decode cX12_say 114 = .ok (.sipush 200, 3) := by decide +kernel
theorem dX12_say_117 : decode cX12_say 117 = .ok (.iload_n 2, 1) := by decide +kernel
theorem dX12_say_118 : decode cX12_say 118 = .ok (.imul, 1) := by decide +kernel
theorem dX12_say_119 : decode cX12_say 119 = .ok (.iload_n 3, 1) := by decide +kernel
theorem dX12_say_120 : decode cX12_say 120 = .ok (.iadd, 1) := by decide +kernel
theorem dX12_say_121 : decode cX12_say 121 = .ok (.aload_n 0, 1) := by decide +kernel
theorem dX12_say_122 : decode cX12_say 122 = .ok (.getfield 7, 3) := by decide +kernel
theorem dX12_say_125 : decode cX12_say 125 = .ok (.iload_n 3, 1) := by decide +kernel
theorem dX12_say_126 : decode cX12_say 126 = .ok (.caload, 1) := by decide +kernel
theorem dX12_say_127 : decode cX12_say 127 = .ok (.castore, 1) := by decide +kernel
theorem dX12_say_128 : decode cX12_say 128 = .ok (.iinc 3 1, 3) := by decide +kernel
theorem dX12_say_131 : decode cX12_say 131 = .ok (.goto (-29), 3) := by decide +kernel
theorem dX12_say_134 : decode cX12_say 134 = .ok (.aload_n 0, 1) := by decide +kernel
theorem dX12_say_135 : decode cX12_say 135 = .ok (.getfield 39, 3) := by decide +kernel
theorem dX12_say_138 : decode cX12_say 138 = .ok (.iload_n 2, 1) := by decide +kernel
theorem dX12_say_139 : decode cX12_say 139 = .ok (.aload_n 0, 1) := by decide +kernel
theorem dX12_say_140 : decode cX12_say 140 = .ok (.getfield 270, 3) := by decide +kernel
theorem dX12_say_143 : decode cX12_say 143 = .ok (.iastore, 1) := by decide +kernel
theorem dX12_say_144 : decode cX12_say 144 = .ok (.aload_n 0, 1) := by decide +kernel
theorem dX12_say_145 : decode cX12_say 145 = .ok (.iconst 0, 1) := by decide +kernel
theorem dX12_say_146 : decode cX12_say 146 = .ok (.putfield 270, 3) := by decide +kernel
theorem dX12_say_149 : decode cX12_say 149 = .ok (.aload_n 0, 1) := by decide +kernel
theorem dX12_say_150 : decode cX12_say 150 = .ok (.getfield 39, 3) := by decide +kernel
theorem dX12_say_153 : decode cX12_say 153 = .ok (.iload_n 2, 1) := by decide +kernel
theorem dX12_say_154 : decode cX12_say 154 = .ok (.iaload, 1) := by decide +kernel
theorem dX12_say_155 : decode cX12_say 155 = .ok (.ireturn, 1) := by decide +kernel
theorem dX12_isBehind_0 : decode cX12_isBehind 0 = .ok (.iload_n 1, 1) := by decide +kernel
theorem dX12_isBehind_1 : decode cX12_isBehind 1 = .ok (.istore_n 3, 1) := by decide +kernel
theorem dX12_isBehind_2 : decode cX12_isBehind 2 = .ok (.iload_n 3, 1) := by decide +kernel
theorem dX12_isBehind_3 : decode cX12_isBehind 3 = .ok (.iload_n 2, 1) := by decide +kernel
theorem dX12_isBehind_4 : decode cX12_isBehind 4 = .ok (.if_icmp .le 22, 3) := by decide +kernel
theorem dX12_isBehind_7 : decode cX12_isBehind 7 = .ok (.aload_n 0, 1) := by decide +kernel
theorem dX12_isBehind_8 : decode cX12_isBehind 8 = .ok (.getfield 21, 3) := by decide +kernel
theorem dX12_isBehind_11 : decode cX12_isBehind 11 = .ok (.sipush 301, 3) := by decide +kernel
theorem dX12_isBehind_14 : decode cX12_isBehind 14 = .ok (.aload_n 0, 1) := by decide +kernel
theorem dX12_isBehind_15 : decode cX12_isBehind 15 = .ok (.getfield 347, 3) := by decide +kernel
theorem dX12_isBehind_18 : decode cX12_isBehind 18 = .ok (.imul, 1) := by decide +kernel
theorem dX12_isBehind_19 : decode cX12_isBehind 19 = .ok (.iload_n 3, 1) := by decide +kernel
theorem dX12_isBehind_20 : decode cX12_isBehind 20 = .ok (.iadd, 1) := by decide +kernel
theorem dX12_isBehind_21 : decode cX12_isBehind 21 = .ok (.iaload, 1) := by decide +kernel
theorem dX12_isBehind_22 : decode cX12_isBehind 22 = .ok (.istore_n 3, 1) := by decide +kernel
theorem dX12_isBehind_23 : decode cX12_isBehind 23 = .ok (.goto (-21), 3) := by decide +kernel
theorem dX12_isBehind_26 : decode cX12_isBehind 26 = .ok (.iload_n 3, 1) := by decide +kernel
theorem dX12_isBehind_27 : decode cX12_isBehind 27 = .ok (.iload_n 2, 1) := by decide +kernel
theorem dX12_isBehind_28 : decode cX12_isBehind 28 = .ok (.if_icmp .ne 7, 3) := by decide +kernel
theorem dX12_isBehind_31 : decode cX12_isBehind 31 = .ok (.iconst 1, 1) := by decide +kernel
theorem dX12_isBehind_32 : decode cX12_isBehind 32 = .ok (.goto 4, 3) := by decide +kernel
theorem dX12_isBehind_35 : decode cX12_isBehind 35 = .ok (.iconst 0, 1) := by decide +kernel
theorem dX12_isBehind_36 : decode cX12_isBehind 36 = .ok (.ireturn, 1) := by decide +kernel
theorem dX12_lead_0 : decode cX12_lead 0 = .ok (.aload_n 0, 1) := by decide +kernel
theorem dX12_lead_1 : decode cX12_lead 1 = .ok (.aload_n 0, 1) := by decide +kernel
theorem dX12_lead_2 : decode cX12_lead 2 = .ok (.getfield 353, 3) := by decide +kernel
theorem dX12_lead_5 : decode cX12_lead 5 = .ok (.ifCond .ne 7, 3) := by decide +kernel
theorem dX12_lead_8 : decode cX12_lead 8 = .ok (.iconst 1, 1) := by decide +kernel
theorem dX12_lead_9 : decode cX12_lead 9 = .ok (.goto 4, 3) := by decide +kernel
theorem dX12_lead_12 : decode cX12_lead 12 = .ok (.iconst 0, 1) := by decide +kernel
theorem dX12_lead_13 : decode cX12_lead 13 = .ok (.putfield 99, 3) := by decide +kernel
theorem dX12_lead_16 : decode cX12_lead 16 = .ok (.aload_n 0, 1) := by decide +kernel
theorem dX12_lead_17 : decode cX12_lead 17 = .ok (.getfield 99, 3) := by decide +kernel
theorem dX12_lead_20 : decode cX12_lead 20 = .ok (.ifCond .le 5, 3) := by decide +kernel
theorem dX12_lead_23 : decode cX12_lead 23 = .ok (.iconst 0, 1) := by decide +kernel
theorem dX12_lead_24 : decode cX12_lead 24 = .ok (.ireturn, 1) := by decide +kernel
theorem dX12_lead_25 : decode cX12_lead 25 = .ok (.aload_n 0, 1) := by decide +kernel
theorem dX12_lead_26 : decode cX12_lead 26 = .ok (.getfield 21, 3) := by decide +kernel
theorem dX12_lead_29 : decode cX12_lead 29 = .ok (.sipush 301, 3) := by decide +kernel
theorem dX12_lead_32 : decode cX12_lead 32 = .ok (.aload_n 0, 1) := by decide +kernel
theorem dX12_lead_33 : decode cX12_lead 33 = .ok (.getfield 347, 3) := by decide +kernel
theorem dX12_lead_36 : decode cX12_lead 36 = .ok (.imul, 1) := by decide +kernel
theorem dX12_lead_37 : decode cX12_lead 37 = .ok (.aload_n 0, 1) := by decide +kernel
theorem dX12_lead_38 : decode cX12_lead 38 = .ok (.getfield 353, 3) := by decide +kernel
theorem dX12_lead_41 : decode cX12_lead 41 = .ok (.iadd, 1) := by decide +kernel
theorem dX12_lead_42 : decode cX12_lead 42 = .ok (.iaload, 1) := by decide +kernel
theorem dX12_lead_43 : decode cX12_lead 43 = .ok (.istore_n 1, 1) := by decide +kernel
theorem dX12_lead_44 : decode cX12_lead 44 = .ok (.aload_n 0, 1) := by decide +kernel
theorem dX12_lead_45 : decode cX12_lead 45 = .ok (.getfield 27, 3) := by decide +kernel
theorem dX12_lead_48 : decode cX12_lead 48 = .ok (.sipush 301, 3) := by decide +kernel
theorem dX12_lead_51 : decode cX12_lead 51 = .ok (.aload_n 0, 1) := by decide +kernel
theorem dX12_lead_52 : decode cX12_lead 52 = .ok (.getfield 347, 3) := by decide +kernel
theorem dX12_lead_55 : decode cX12_lead 55 = .ok (.imul, 1) := by decide +kernel
theorem dX12_lead_56 : decode cX12_lead 56 = .ok (.iload_n 1, 1) := by decide +kernel
theorem dX12_lead_57 : decode cX12_lead 57 = .ok (.iadd, 1) := by decide +kernel
theorem dX12_lead_58 : decode cX12_lead 58 = .ok (.iaload, 1) := by decide +kernel
theorem dX12_lead_59 : decode cX12_lead 59 = .ok (.istore_n 2, 1) := by decide +kernel
theorem dX12_lead_60 : decode cX12_lead 60 = .ok (.iload_n 2, 1) := by decide +kernel
theorem dX12_lead_61 : decode cX12_lead 61 = .ok (.aload_n 0, 1) := by decide +kernel
theorem dX12_lead_62 : decode cX12_lead 62 = .ok (.getfield 353, 3) := by decide +kernel
theorem dX12_lead_65 : decode cX12_lead 65 = .ok (.if_icmp .ne 5, 3) := by decide +kernel
theorem dX12_lead_68 : decode cX12_lead 68 = .ok (.iconst 0, 1) := by decide +kernel
theorem dX12_lead_69 : decode cX12_lead 69 = .ok (.ireturn, 1) := by decide +kernel
theorem dX12_lead_70 : decode cX12_lead 70 = .ok (.iconst 1, 1) := by decide +kernel
theorem dX12_lead_71 : decode cX12_lead 71 = .ok (.istore_n 3, 1) := by decide +kernel
theorem dX12_lead_72 : decode cX12_lead 72 = .ok (.iload_n 3, 1) := by decide +kernel
theorem dX12_lead_73 : decode cX12_lead 73 = .ok (.aload_n 0, 1) := by decide +kernel
theorem dX12_lead_74 : decode cX12_lead 74 = .ok (.getfield 17, 3) := by decide +kernel
theorem dX12_lead_77 : decode cX12_lead 77 = .ok (.aload_n 0, 1) := by decide +kernel
theorem dX12_lead_78 : decode cX12_lead 78 = .ok (.getfield 347, 3) := by decide +kernel
theorem dX12_lead_81 : decode cX12_lead 81 = .ok (.iaload, 1) := by decide +kernel
theorem dX12_lead_82 : decode cX12_lead 82 = .ok (.if_icmp .gt 39, 3) := by decide +kernel
theorem dX12_lead_85 : decode cX12_lead 85 = .ok (.aload_n 0, 1) := by decide +kernel
theorem dX12_lead_86 : decode cX12_lead 86 = .ok (.iload_n 3, 1) := by decide +kernel
theorem dX12_lead_87 : decode cX12_lead 87 = .ok (.iload_n 2, 1) := by decide +kernel
theorem dX12_lead_88 : decode cX12_lead 88 = .ok (.invokevirtual 395, 3) := by decide +kernel
theorem dX12_lead_91 : decode cX12_lead 91 = .ok (.ifCond .eq 24, 3) := by decide +kernel
theorem dX12_lead_94 : decode cX12_lead 94 = .ok (.aload_n 0, 1) := by decide +kernel
theorem dX12_lead_95 : decode cX12_lead 95 = .ok (.aload_n 0, 1) := by decide +kernel
theorem dX12_lead_96 : decode cX12_lead 96 = .ok (.getfield 347, 3) := by decide +kernel
theorem dX12_lead_99 : decode cX12_lead 99 = .ok (.iload_n 3, 1) := by decide +kernel
theorem dX12_lead_100 : decode cX12_lead 100 = .ok (.invokevirtual 392, 3) := by decide +kernel
theorem dX12_lead_103 : decode cX12_lead 103 = .ok (.bipush 6, 2) := by decide +kernel
theorem dX12_lead_105 : decode cX12_lead 105 = .ok (.if_icmp .ne 10, 3) := by decide +kernel
theorem dX12_lead_108 : decode cX12_lead 108 = .ok (.aload_n 0, 1) := by decide +kernel
theorem dX12_lead_109 : decode cX12_lead 109 = .ok (.iconst 1, 1) := by decide +kernel
theorem dX12_lead_110 : decode cX12_lead 110 = .ok (.putfield 99, 3) := by decide +kernel
theorem dX12_lead_113 : decode cX12_lead 113 = .ok (.iconst 0, 1) := by decide +kernel
theorem dX12_lead_114 : decode cX12_lead 114 = .ok (.ireturn, 1) := by decide +kernel
theorem dX12_lead_115 : decode cX12_lead 115 = .ok (.iinc 3 1, 3) := by decide +kernel
theorem dX12_lead_118 : decode cX12_lead 118 = .ok (.goto (-46), 3) := by decide +kernel
theorem dX12_lead_121 : decode cX12_lead 121 = .ok (.iload_n 2, 1) := by decide +kernel
theorem dX12_lead_122 : decode cX12_lead 122 = .ok (.istore_n 3, 1) := by decide +kernel
theorem dX12_lead_123 : decode cX12_lead 123 = .ok (.aload_n 0, 1) := by decide +kernel
theorem dX12_lead_124 : decode cX12_lead 124 = .ok (.getfield 30, 3) := by decide +kernel
theorem dX12_lead_127 : decode cX12_lead 127 = .ok (.sipush 301, 3) := by decide +kernel
theorem dX12_lead_130 : decode cX12_lead 130 = .ok (.aload_n 0, 1) := by decide +kernel
theorem dX12_lead_131 : decode cX12_lead 131 = .ok (.getfield 347, 3) := by decide +kernel
theorem dX12_lead_134 : decode cX12_lead 134 = .ok (.imul, 1) := by decide +kernel
theorem dX12_lead_135 : decode cX12_lead 135 = .ok (.iload_n 3, 1) := by decide +kernel
theorem dX12_lead_136 : decode cX12_lead 136 = .ok (.iadd, 1) := by decide +kernel
theorem dX12_lead_137 : decode cX12_lead 137 = .ok (.iaload, 1) := by decide +kernel
theorem dX12_lead_138 : decode cX12_lead 138 = .ok (.aload_n 0, 1) := by decide +kernel
theorem dX12_lead_139 : decode cX12_lead 139 = .ok (.getfield 353, 3) := by decide +kernel
theorem dX12_lead_142 : decode cX12_lead 142 = .ok (.if_icmp .eq 22, 3) := by decide +kernel
theorem dX12_lead_145 : decode cX12_lead 145 = .ok (.aload_n 0, 1) := by decide +kernel
theorem dX12_lead_146 : decode cX12_lead 146 = .ok (.getfield 30, 3) := by decide +kernel
theorem dX12_lead_149 : decode cX12_lead 149 = .ok (.sipush 301, 3) := by decide +kernel
theorem dX12_lead_152 : decode cX12_lead 152 = .ok (.aload_n 0, 1) := by decide +kernel
theorem dX12_lead_153 : decode cX12_lead 153 = .ok (.getfield 347, 3) := by decide +kernel
theorem dX12_lead_156 : decode cX12_lead 156 = .ok (.imul, 1) := by decide +kernel
theorem dX12_lead_157 : decode cX12_lead 157 = .ok (.iload_n 3, 1) := by decide +kernel
theorem dX12_lead_158 : decode cX12_lead 158 = .ok (.iadd, 1) := by decide +kernel
theorem dX12_lead_159 : decode cX12_lead 159 = .ok (.iaload, 1) := by decide +kernel
theorem dX12_lead_160 : decode cX12_lead 160 = .ok (.istore_n 3, 1) := by decide +kernel
theorem dX12_lead_161 : decode cX12_lead 161 = .ok (.goto (-38), 3) := by decide +kernel
theorem dX12_lead_164 : decode cX12_lead 164 = .ok (.aload_n 0, 1) := by decide +kernel
theorem dX12_lead_165 : decode cX12_lead 165 = .ok (.getfield 30, 3) := by decide +kernel
theorem dX12_lead_168 : decode cX12_lead 168 = .ok (.sipush 301, 3) := by decide +kernel
theorem dX12_lead_171 : decode cX12_lead 171 = .ok (.aload_n 0, 1) := by decide +kernel
theorem dX12_lead_172 : decode cX12_lead 172 = .ok (.getfield 347, 3) := by decide +kernel
theorem dX12_lead_175 : decode cX12_lead 175 = .ok (.imul, 1) := by decide +kernel
theorem dX12_lead_176 : decode cX12_lead 176 = .ok (.iload_n 3, 1) := by decide +kernel
theorem dX12_lead_177 : decode cX12_lead 177 = .ok (.iadd, 1) := by decide +kernel
theorem dX12_lead_178 : decode cX12_lead 178 = .ok (.aload_n 0, 1) := by decide +kernel
theorem dX12_lead_179 : decode cX12_lead 179 = .ok (.getfield 30, 3) := by decide +kernel
theorem dX12_lead_182 : decode cX12_lead 182 = .ok (.sipush 301, 3) := by decide +kernel
theorem dX12_lead_185 : decode cX12_lead 185 = .ok (.aload_n 0, 1) := by decide +kernel
theorem dX12_lead_186 : decode cX12_lead 186 = .ok (.getfield 347, 3) := by decide +kernel
theorem dX12_lead_189 : decode cX12_lead 189 = .ok (.imul, 1) := by decide +kernel
theorem dX12_lead_190 : decode cX12_lead 190 = .ok (.aload_n 0, 1) := by decide +kernel
theorem dX12_lead_191 : decode cX12_lead 191 = .ok (.getfield 353, 3) := by decide +kernel
theorem dX12_lead_194 : decode cX12_lead 194 = .ok (.iadd, 1) := by decide +kernel
theorem dX12_lead_195 : decode cX12_lead 195 = .ok (.iaload, 1) := by decide +kernel
theorem dX12_lead_196 : decode cX12_lead 196 = .ok (.iastore, 1) := by decide +kernel
theorem dX12_lead_197 : decode cX12_lead 197 = .ok (.aload_n 0, 1) := by decide +kernel
theorem dX12_lead_198 : decode cX12_lead 198 = .ok (.getfield 30, 3) := by decide +kernel
theorem dX12_lead_201 : decode cX12_lead 201 = .ok (.sipush 301, 3) := by decide +kernel
theorem dX12_lead_204 : decode cX12_lead 204 = .ok (.aload_n 0, 1) := by decide +kernel
theorem dX12_lead_205 : decode cX12_lead 205 = .ok (.getfield 347, 3) := by decide +kernel
theorem dX12_lead_208 : decode cX12_lead 208 = .ok (.imul, 1) := by decide +kernel
theorem dX12_lead_209 : decode cX12_lead 209 = .ok (.aload_n 0, 1) := by decide +kernel
theorem dX12_lead_210 : decode cX12_lead 210 = .ok (.getfield 353, 3) := by decide +kernel
theorem dX12_lead_213 : decode cX12_lead 213 = .ok (.iadd, 1) := by decide +kernel
theorem dX12_lead_214 : decode cX12_lead 214 = .ok (.iload_n 2, 1) := by decide +kernel
theorem dX12_lead_215 : decode cX12_lead 215 = .ok (.iastore, 1) := by decide +kernel
theorem dX12_lead_216 : decode cX12_lead 216 = .ok (.aload_n 0, 1) := by decide +kernel
theorem dX12_lead_217 : decode cX12_lead 217 = .ok (.getfield 27, 3) := by decide +kernel
theorem dX12_lead_220 : decode cX12_lead 220 = .ok (.sipush 301, 3) := by decide +kernel
theorem dX12_lead_223 : decode cX12_lead 223 = .ok (.aload_n 0, 1) := by decide +kernel
theorem dX12_lead_224 : decode cX12_lead 224 = .ok (.getfield 347, 3) := by decide +kernel
theorem dX12_lead_227 : decode cX12_lead 227 = .ok (.imul, 1) := by decide +kernel
theorem dX12_lead_228 : decode cX12_lead 228 = .ok (.iload_n 1, 1) := by decide +kernel
theorem dX12_lead_229 : decode cX12_lead 229 = .ok (.iadd, 1) := by decide +kernel
theorem dX12_lead_230 : decode cX12_lead 230 = .ok (.aload_n 0, 1) := by decide +kernel
theorem dX12_lead_231 : decode cX12_lead 231 = .ok (.getfield 353, 3) := by decide +kernel
theorem dX12_lead_234 : decode cX12_lead 234 = .ok (.iastore, 1) := by decide +kernel
theorem dX12_lead_235 : decode cX12_lead 235 = .ok (.iconst 1, 1) := by decide +kernel
theorem dX12_lead_236 : decode cX12_lead 236 = .ok (.ireturn, 1) := by decide +kernel
theorem dX12_end_0 : decode cX12_end 0 = .ok (.aload_n 0, 1) := by decide +kernel
theorem dX12_end_1 : decode cX12_end 1 = .ok (.iload_n 1, 1) := by decide +kernel
theorem dX12_end_2 : decode cX12_end 2 = .ok (.ifCond .lt 8, 3) := by decide +kernel
theorem dX12_end_5 : decode cX12_end 5 = .ok (.iload_n 1, 1) := by decide +kernel
theorem dX12_end_6 : decode cX12_end 6 = .ok (.iconst 3, 1) := by decide +kernel
theorem dX12_end_7 : decode cX12_end 7 = .ok (.if_icmp .le 7, 3) := by decide +kernel
theorem dX12_end_10 : decode cX12_end 10 = .ok (.iconst 1, 1) := by decide +kernel
theorem dX12_end_11 : decode cX12_end 11 = .ok (.goto 4, 3) := by decide +kernel
theorem dX12_end_14 : decode cX12_end 14 = .ok (.iconst 0, 1) := by decide +kernel
theorem dX12_end_15 : decode cX12_end 15 = .ok (.putfield 99, 3) := by decide +kernel
theorem dX12_end_18 : decode cX12_end 18 = .ok (.aload_n 0, 1) := by decide +kernel
theorem dX12_end_19 : decode cX12_end 19 = .ok (.getfield 67, 3) := by decide +kernel
theorem dX12_end_22 : decode cX12_end 22 = .ok (.aload_n 0, 1) := by decide +kernel
theorem dX12_end_23 : decode cX12_end 23 = .ok (.getfield 347, 3) := by decide +kernel
theorem dX12_end_26 : decode cX12_end 26 = .ok (.aload_n 0, 1) := by decide +kernel
theorem dX12_end_27 : decode cX12_end 27 = .ok (.getfield 99, 3) := by decide +kernel
theorem dX12_end_30 : decode cX12_end 30 = .ok (.ifCond .le 15, 3) := by decide +kernel
theorem dX12_end_33 : decode cX12_end 33 = .ok (.aload_n 0, 1) := by decide +kernel
theorem dX12_end_34 : decode cX12_end 34 = .ok (.getfield 67, 3) := by decide +kernel
theorem dX12_end_37 : decode cX12_end 37 = .ok (.aload_n 0, 1) := by decide +kernel
theorem dX12_end_38 : decode cX12_end 38 = .ok (.getfield 347, 3) := by decide +kernel
theorem dX12_end_41 : decode cX12_end 41 = .ok (.iaload, 1) := by decide +kernel
theorem dX12_end_42 : decode cX12_end 42 = .ok (.goto 4, 3) := by decide +kernel
theorem dX12_end_45 : decode cX12_end 45 = .ok (.iload_n 1, 1) := by decide +kernel
theorem dX12_end_46 : decode cX12_end 46 = .ok (.iastore, 1) := by decide +kernel
theorem dX12_end_47 : decode cX12_end 47 = .ok (.return_, 1) := by decide +kernel
theorem dX12_result_0 : decode cX12_result 0 = .ok (.aload_n 0, 1) := by decide +kernel
theorem dX12_result_1 : decode cX12_result 1 = .ok (.iconst 0, 1) := by decide +kernel
theorem dX12_result_2 : decode cX12_result 2 = .ok (.putfield 99, 3) := by decide +kernel
theorem dX12_result_5 : decode cX12_result 5 = .ok (.aload_n 0, 1) := by decide +kernel
theorem dX12_result_6 : decode cX12_result 6 = .ok (.getfield 67, 3) := by decide +kernel
theorem dX12_result_9 : decode cX12_result 9 = .ok (.aload_n 0, 1) := by decide +kernel
theorem dX12_result_10 : decode cX12_result 10 = .ok (.getfield 347, 3) := by decide +kernel
theorem dX12_result_13 : decode cX12_result 13 = .ok (.iaload, 1) := by decide +kernel
theorem dX12_result_14 : decode cX12_result 14 = .ok (.ireturn, 1) := by decide +kernel
theorem dX12_tags_0 : decode cX12_tags 0 = .ok (.aload_n 0, 1) := by decide +kernel
theorem dX12_tags_1 : decode cX12_tags 1 = .ok (.iconst 0, 1) := by decide +kernel
theorem dX12_tags_2 : decode cX12_tags 2 = .ok (.putfield 99, 3) := by decide +kernel
theorem dX12_tags_5 : decode cX12_tags 5 = .ok (.aload_n 0, 1) := by decide +kernel
theorem dX12_tags_6 : decode cX12_tags 6 = .ok (.getfield 52, 3) := by decide +kernel
theorem dX12_tags_9 : decode cX12_tags 9 = .ok (.aload_n 0, 1) := by decide +kernel
theorem dX12_tags_10 : decode cX12_tags 10 = .ok (.getfield 347, 3) := by decide +kernel
theorem dX12_tags_13 : decode cX12_tags 13 = .ok (.iaload, 1) := by decide +kernel
theorem dX12_tags_14 : decode cX12_tags 14 = .ok (.ireturn, 1) := by decide +kernel
theorem dX12_tag_0 : decode cX12_tag 0 = .ok (.aload_n 0, 1) := by decide +kernel
theorem dX12_tag_1 : decode cX12_tag 1 = .ok (.iload_n 1, 1) := by decide +kernel
theorem dX12_tag_2 : decode cX12_tag 2 = .ok (.ifCond .lt 20, 3) := by decide +kernel
theorem dX12_tag_5 : decode cX12_tag 5 = .ok (.iload_n 1, 1) := by decide +kernel
theorem dX12_tag_6 : decode cX12_tag 6 = .ok (.aload_n 0, 1) := by decide +kernel
theorem dX12_tag_7 : decode cX12_tag 7 = .ok (.getfield 52, 3) := by decide +kernel
theorem dX12_tag_10 : decode cX12_tag 10 = .ok (.aload_n 0, 1) := by decide +kernel
theorem dX12_tag_11 : decode cX12_tag 11 = .ok (.getfield 347, 3) := by decide +kernel
theorem dX12_tag_14 : decode cX12_tag 14 = .ok (.iaload, 1) := by decide +kernel
theorem dX12_tag_15 : decode cX12_tag 15 = .ok (.if_icmp .ge 7, 3) := by decide +kernel
theorem dX12_tag_18 : decode cX12_tag 18 = .ok (.iload_n 3, 1) := by decide +kernel
theorem dX12_tag_19 : decode cX12_tag 19 = .ok (.ifCond .ge 7, 3) := by decide +kernel
theorem dX12_tag_22 : decode cX12_tag 22 = .ok (.iconst 1, 1) := by decide +kernel
theorem dX12_tag_23 : decode cX12_tag 23 = .ok (.goto 4, 3) := by decide +kernel
theorem dX12_tag_26 : decode cX12_tag 26 = .ok (.iconst 0, 1) := by decide +kernel
theorem dX12_tag_27 : decode cX12_tag 27 = .ok (.putfield 99, 3) := by decide +kernel
theorem dX12_tag_30 : decode cX12_tag 30 = .ok (.aload_n 0, 1) := by decide +kernel
theorem dX12_tag_31 : decode cX12_tag 31 = .ok (.getfield 99, 3) := by decide +kernel
theorem dX12_tag_34 : decode cX12_tag 34 = .ok (.ifCond .le 5, 3) := by decide +kernel
theorem dX12_tag_37 : decode cX12_tag 37 = .ok (.iconst 0, 1) := by decide +kernel
theorem dX12_tag_38 : decode cX12_tag 38 = .ok (.ireturn, 1) := by decide +kernel
theorem dX12_tag_39 : decode cX12_tag 39 = .ok (.iload_n 2, 1) := by decide +kernel
theorem dX12_tag_40 : decode cX12_tag 40 = .ok (.ifCond .eq 20, 3) := by decide +kernel
theorem dX12_tag_43 : decode cX12_tag 43 = .ok (.aload_n 0, 1) := by decide +kernel
theorem dX12_tag_44 : decode cX12_tag 44 = .ok (.getfield 61, 3) := by decide +kernel
theorem dX12_tag_47 : decode cX12_tag 47 = .ok (.bipush 8, 2) := by decide +kernel
theorem dX12_tag_49 : decode cX12_tag 49 = .ok (.aload_n 0, 1) := by decide +kernel
theorem dX12_tag_50 : decode cX12_tag 50 = .ok (.getfield 347, 3) := by decide +kernel
theorem dX12_tag_53 : decode cX12_tag 53 = .ok (.imul, 1) := by decide +kernel
theorem dX12_tag_54 : decode cX12_tag 54 = .ok (.iload_n 1, 1) := by decide +kernel
theorem dX12_tag_55 : decode cX12_tag 55 = .ok (.iadd, 1) := by decide +kernel
theorem dX12_tag_56 : decode cX12_tag 56 = .ok (.iaload, 1) := by decide +kernel
theorem dX12_tag_57 : decode cX12_tag 57 = .ok (.goto 17, 3) := by decide +kernel
theorem dX12_tag_60 : decode cX12_tag 60 = .ok (.aload_n 0, 1) := by decide +kernel
theorem dX12_tag_61 : decode cX12_tag 61 = .ok (.getfield 55, 3) := by decide +kernel
theorem dX12_tag_64 : decode cX12_tag 64 = .ok (.bipush 8, 2) := by decide +kernel
theorem dX12_tag_66 : decode cX12_tag 66 = .ok (.aload_n 0, 1) := by decide +kernel
theorem dX12_tag_67 : decode cX12_tag 67 = .ok (.getfield 347, 3) := by decide +kernel
theorem dX12_tag_70 : decode cX12_tag 70 = .ok (.imul, 1) := by decide +kernel
theorem dX12_tag_71 : decode cX12_tag 71 = .ok (.iload_n 1, 1) := by decide +kernel
theorem dX12_tag_72 : decode cX12_tag 72 = .ok (.iadd, 1) := by decide +kernel
theorem dX12_tag_73 : decode cX12_tag 73 = .ok (.iaload, 1) := by decide +kernel
theorem dX12_tag_74 : decode cX12_tag 74 = .ok (.istore 4, 2) := by decide +kernel
theorem dX12_tag_76 : decode cX12_tag 76 = .ok (.iload_n 3, 1) := by decide +kernel
theorem dX12_tag_77 : decode cX12_tag 77 = .ok (.iload 4, 2) := by decide +kernel
theorem dX12_tag_79 : decode cX12_tag 79 = .ok (.if_icmp .lt 7, 3) := by decide +kernel
theorem dX12_tag_82 : decode cX12_tag 82 = .ok (.iconst 0, 1) := by decide +kernel
theorem dX12_tag_83 : decode cX12_tag 83 = .ok (.goto 49, 3) := by decide +kernel
theorem dX12_tag_86 : decode cX12_tag 86 = .ok (.iload_n 2, 1) := by decide +kernel
theorem dX12_tag_87 : decode cX12_tag 87 = .ok (.ifCond .eq 26, 3) := by decide +kernel
theorem dX12_tag_90 : decode cX12_tag 90 = .ok (.aload_n 0, 1) := by decide +kernel
theorem dX12_tag_91 : decode cX12_tag 91 = .ok (.getfield 64, 3) := by decide +kernel
theorem dX12_tag_94 : decode cX12_tag 94 = .ok (.sipush 768, 3) := by decide +kernel
theorem dX12_tag_97 : decode cX12_tag 97 = .ok (.aload_n 0, 1) := by decide +kernel
theorem dX12_tag_98 : decode cX12_tag 98 = .ok (.getfield 347, 3) := by decide +kernel
theorem dX12_tag_101 : decode cX12_tag 101 = .ok (.imul, 1) := by decide +kernel
theorem dX12_tag_102 : decode cX12_tag 102 = .ok (.bipush 96, 2) := by decide +kernel
theorem dX12_tag_104 : decode cX12_tag 104 = .ok (.iload_n 1, 1) := by decide +kernel
theorem dX12_tag_105 : decode cX12_tag 105 = .ok (.imul, 1) := by decide +kernel
theorem dX12_tag_106 : decode cX12_tag 106 = .ok (.iadd, 1) := by decide +kernel
theorem dX12_tag_107 : decode cX12_tag 107 = .ok (.iload_n 3, 1) := by decide +kernel
theorem dX12_tag_108 : decode cX12_tag 108 = .ok (.iadd, 1) := by decide +kernel
theorem dX12_tag_109 : decode cX12_tag 109 = .ok (.caload, 1) := by decide +kernel
theorem dX12_tag_110 : decode cX12_tag 110 = .ok (.goto 22, 3) := by decide +kernel
theorem dX12_tag_113 : decode cX12_tag 113 = .ok (.aload_n 0, 1) := by decide +kernel
theorem dX12_tag_114 : decode cX12_tag 114 = .ok (.getfield 58, 3) := by decide +kernel
theorem dX12_tag_117 : decode cX12_tag 117 = .ok (.bipush 96, 2) := by decide +kernel
theorem dX12_tag_119 : decode cX12_tag 119 = .ok (.aload_n 0, 1) := by decide +kernel
theorem dX12_tag_120 : decode cX12_tag 120 = .ok (.getfield 347, 3) := by decide +kernel
theorem dX12_tag_123 : decode cX12_tag 123 = .ok (.imul, 1) := by decide +kernel
theorem dX12_tag_124 : decode cX12_tag 124 = .ok (.bipush 12, 2) := by decide +kernel
theorem dX12_tag_126 : decode cX12_tag 126 = .ok (.iload_n 1, 1) := by decide +kernel
theorem dX12_tag_127 : decode cX12_tag 127 = .ok (.imul, 1) := by decide +kernel
theorem dX12_tag_128 : decode cX12_tag 128 = .ok (.iadd, 1) := by decide +kernel
theorem dX12_tag_129 : decode cX12_tag 129 = .ok (.iload_n 3, 1) := by decide +kernel
theorem dX12_tag_130 : decode cX12_tag 130 = .ok (.iadd, 1) := by decide +kernel
theorem dX12_tag_131 : decode cX12_tag 131 = .ok (.caload, 1) := by decide +kernel
theorem dX12_tag_132 : decode cX12_tag 132 = .ok (.ireturn, 1) := by decide +kernel
