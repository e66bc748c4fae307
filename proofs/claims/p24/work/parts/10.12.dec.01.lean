section
theorem dX3_init_0 : decode cX3_init 0 = .ok (.aload_n 0, 1) := by decide +kernel
theorem dX3_init_1 : decode cX3_init 1 = .ok (.invokespecial 3, 3) := by decide +kernel
theorem dX3_init_4 : decode cX3_init 4 = .ok (.aload_n 0, 1) := by decide +kernel
theorem dX3_init_5 : decode cX3_init 5 = .ok (.new 9, 3) := by decide +kernel
theorem dX3_init_8 : decode cX3_init 8 = .ok (.dup, 1) := by decide +kernel
theorem dX3_init_9 : decode cX3_init 9 = .ok (.invokespecial 11, 3) := by decide +kernel
theorem dX3_init_12 : decode cX3_init 12 = .ok (.putfield 12, 3) := by decide +kernel
theorem dX3_init_15 : decode cX3_init 15 = .ok (.aload_n 0, 1) := by decide +kernel
theorem dX3_init_16 : decode cX3_init 16 = .ok (.bipush 7, 2) := by decide +kernel
theorem dX3_init_18 : decode cX3_init 18 = .ok (.anewarray 18, 3) := by decide +kernel
theorem dX3_init_21 : decode cX3_init 21 = .ok (.putfield 20, 3) := by decide +kernel
theorem dX3_init_24 : decode cX3_init 24 = .ok (.iconst 0, 1) := by decide +kernel
theorem dX3_init_25 : decode cX3_init 25 = .ok (.istore_n 1, 1) := by decide +kernel
theorem dX3_init_26 : decode cX3_init 26 = .ok (.iload_n 1, 1) := by decide +kernel
theorem dX3_init_27 : decode cX3_init 27 = .ok (.bipush 6, 2) := by decide +kernel
theorem dX3_init_29 : decode cX3_init 29 = .ok (.if_icmp .gt 22, 3) := by decide +kernel
theorem dX3_init_32 : decode cX3_init 32 = .ok (.aload_n 0, 1) := by decide +kernel
theorem dX3_init_33 : decode cX3_init 33 = .ok (.getfield 20, 3) := by decide +kernel
theorem dX3_init_36 : decode cX3_init 36 = .ok (.iload_n 1, 1) := by decide +kernel
theorem dX3_init_37 : decode cX3_init 37 = .ok (.new 18, 3) := by decide +kernel
theorem dX3_init_40 : decode cX3_init 40 = .ok (.dup, 1) := by decide +kernel
theorem dX3_init_41 : decode cX3_init 41 = .ok (.invokespecial 24, 3) := by decide +kernel
theorem dX3_init_44 : decode cX3_init 44 = .ok (.aastore, 1) := by decide +kernel
theorem dX3_init_45 : decode cX3_init 45 = .ok (.iinc 1 1, 3) := by decide +kernel
theorem dX3_init_48 : decode cX3_init 48 = .ok (.goto (-22), 3) := by decide +kernel
theorem dX3_init_51 : decode cX3_init 51 = .ok (.return_, 1) := by decide +kernel
theorem dX3_putHead_0 : decode cX3_putHead 0 = .ok (.iconst 0, 1) := by decide +kernel
theorem dX3_putHead_1 : decode cX3_putHead 1 = .ok (.istore_n 3, 1) := by decide +kernel
theorem dX3_putHead_2 : decode cX3_putHead 2 = .ok (.iload_n 3, 1) := by decide +kernel
theorem dX3_putHead_3 : decode cX3_putHead 3 = .ok (.aload_n 1, 1) := by decide +kernel
theorem dX3_putHead_4 : decode cX3_putHead 4 = .ok (.getfield 25, 3) := by decide +kernel
theorem dX3_putHead_7 : decode cX3_putHead 7 = .ok (.if_icmp .ge 52, 3) := by decide +kernel
theorem dX3_putHead_10 : decode cX3_putHead 10 = .ok (.aload_n 1, 1) := by decide +kernel
theorem dX3_putHead_11 : decode cX3_putHead 11 = .ok (.iload_n 3, 1) := by decide +kernel
theorem dX3_putHead_12 : decode cX3_putHead 12 = .ok (.invokevirtual 31, 3) := by decide +kernel
theorem dX3_putHead_15 : decode cX3_putHead 15 = .ok (.astore 4, 2) := by decide +kernel
theorem dX3_putHead_17 : decode cX3_putHead 17 = .ok (.aload_n 2, 1) := by decide +kernel
theorem dX3_putHead_18 : decode cX3_putHead 18 = .ok (.bipush 91, 2) := by decide +kernel
theorem dX3_putHead_20 : decode cX3_putHead 20 = .ok (.invokevirtual 35, 3) := by decide +kernel
theorem dX3_putHead_23 : decode cX3_putHead 23 = .ok (.aload_n 2, 1) := by decide +kernel
theorem dX3_putHead_24 : decode cX3_putHead 24 = .ok (.aload 4, 2) := by decide +kernel
theorem dX3_putHead_26 : decode cX3_putHead 26 = .ok (.getfield 41, 3) := by decide +kernel
theorem dX3_putHead_29 : decode cX3_putHead 29 = .ok (.invokevirtual 47, 3) := by decide +kernel
theorem dX3_putHead_32 : decode cX3_putHead 32 = .ok (.aload_n 2, 1) := by decide +kernel
theorem dX3_putHead_33 : decode cX3_putHead 33 = .ok (.ldc 51, 2) := by decide +kernel
theorem dX3_putHead_35 : decode cX3_putHead 35 = .ok (.invokevirtual 53, 3) := by decide +kernel
theorem dX3_putHead_38 : decode cX3_putHead 38 = .ok (.aload 4, 2) := by decide +kernel
theorem dX3_putHead_40 : decode cX3_putHead 40 = .ok (.getfield 57, 3) := by decide +kernel
theorem dX3_putHead_43 : decode cX3_putHead 43 = .ok (.aload_n 2, 1) := by decide +kernel
theorem dX3_putHead_44 : decode cX3_putHead 44 = .ok (.invokestatic 60, 3) := by decide +kernel
theorem dX3_putHead_47 : decode cX3_putHead 47 = .ok (.aload_n 2, 1) := by decide +kernel
theorem dX3_putHead_48 : decode cX3_putHead 48 = .ok (.ldc 64, 2) := by decide +kernel
theorem dX3_putHead_50 : decode cX3_putHead 50 = .ok (.invokevirtual 53, 3) := by decide +kernel
theorem dX3_putHead_53 : decode cX3_putHead 53 = .ok (.iinc 3 1, 3) := by decide +kernel
theorem dX3_putHead_56 : decode cX3_putHead 56 = .ok (.goto (-54), 3) := by decide +kernel
theorem dX3_putHead_59 : decode cX3_putHead 59 = .ok (.aload_n 1, 1) := by decide +kernel
theorem dX3_putHead_60 : decode cX3_putHead 60 = .ok (.getfield 25, 3) := by decide +kernel
theorem dX3_putHead_63 : decode cX3_putHead 63 = .ok (.ifCond .le 9, 3) := by decide +kernel
theorem dX3_putHead_66 : decode cX3_putHead 66 = .ok (.aload_n 2, 1) := by decide +kernel
theorem dX3_putHead_67 : decode cX3_putHead 67 = .ok (.bipush 10, 2) := by decide +kernel
theorem dX3_putHead_69 : decode cX3_putHead 69 = .ok (.invokevirtual 35, 3) := by decide +kernel
theorem dX3_putHead_72 : decode cX3_putHead 72 = .ok (.aload_n 1, 1) := by decide +kernel
theorem dX3_putHead_73 : decode cX3_putHead 73 = .ok (.iconst 0, 1) := by decide +kernel
theorem dX3_putHead_74 : decode cX3_putHead 74 = .ok (.invokevirtual 66, 3) := by decide +kernel
theorem dX3_putHead_77 : decode cX3_putHead 77 = .ok (.aload_n 2, 1) := by decide +kernel
theorem dX3_putHead_78 : decode cX3_putHead 78 = .ok (.invokestatic 70, 3) := by decide +kernel
theorem dX3_putHead_81 : decode cX3_putHead 81 = .ok (.aload_n 0, 1) := by decide +kernel
theorem dX3_putHead_82 : decode cX3_putHead 82 = .ok (.getfield 20, 3) := by decide +kernel
theorem dX3_putHead_85 : decode cX3_putHead 85 = .ok (.iconst 0, 1) := by decide +kernel
theorem dX3_putHead_86 : decode cX3_putHead 86 = .ok (.aaload, 1) := by decide +kernel
theorem dX3_putHead_87 : decode cX3_putHead 87 = .ok (.aload_n 1, 1) := by decide +kernel
theorem dX3_putHead_88 : decode cX3_putHead 88 = .ok (.getfield 74, 3) := by decide +kernel
theorem dX3_putHead_91 : decode cX3_putHead 91 = .ok (.invokevirtual 78, 3) := by decide +kernel
theorem dX3_putHead_94 : decode cX3_putHead 94 = .ok (.return_, 1) := by decide +kernel
theorem dX3_putQuoted_0 : decode cX3_putQuoted 0 = .ok (.iconst 0, 1) := by decide +kernel
theorem dX3_putQuoted_1 : decode cX3_putQuoted 1 = .ok (.istore_n 2, 1) := by decide +kernel
theorem dX3_putQuoted_2 : decode cX3_putQuoted 2 = .ok (.iload_n 2, 1) := by decide +kernel
theorem dX3_putQuoted_3 : decode cX3_putQuoted 3 = .ok (.aload_n 0, 1) := by decide +kernel
theorem dX3_putQuoted_4 : decode cX3_putQuoted 4 = .ok (.invokevirtual 82, 3) := by decide +kernel
theorem dX3_putQuoted_7 : decode cX3_putQuoted 7 = .ok (.if_icmp .ge 38, 3) := by decide +kernel
theorem dX3_putQuoted_10 : decode cX3_putQuoted 10 = .ok (.aload_n 0, 1) := by decide +kernel
theorem dX3_putQuoted_11 : decode cX3_putQuoted 11 = .ok (.iload_n 2, 1) := by decide +kernel
theorem dX3_putQuoted_12 : decode cX3_putQuoted 12 = .ok (.invokevirtual 86, 3) := by decide +kernel
theorem dX3_putQuoted_15 : decode cX3_putQuoted 15 = .ok (.istore_n 3, 1) := by decide +kernel
theorem dX3_putQuoted_16 : decode cX3_putQuoted 16 = .ok (.iload_n 3, 1) := by decide +kernel
theorem dX3_putQuoted_17 : decode cX3_putQuoted 17 = .ok (.bipush 34, 2) := by decide +kernel
theorem dX3_putQuoted_19 : decode cX3_putQuoted 19 = .ok (.if_icmp .eq 9, 3) := by decide +kernel
theorem dX3_putQuoted_22 : decode cX3_putQuoted 22 = .ok (.iload_n 3, 1) := by decide +kernel
theorem dX3_putQuoted_23 : decode cX3_putQuoted 23 = .ok (.bipush 92, 2) := by decide +kernel
theorem dX3_putQuoted_25 : decode cX3_putQuoted 25 = .ok (.if_icmp .ne 9, 3) := by decide +kernel
theorem dX3_putQuoted_28 : decode cX3_putQuoted 28 = .ok (.aload_n 1, 1) := by decide +kernel
theorem dX3_putQuoted_29 : decode cX3_putQuoted 29 = .ok (.bipush 92, 2) := by decide +kernel
theorem dX3_putQuoted_31 : decode cX3_putQuoted 31 = .ok (.invokevirtual 35, 3) := by decide +kernel
theorem dX3_putQuoted_34 : decode cX3_putQuoted 34 = .ok (.aload_n 1, 1) := by decide +kernel
theorem dX3_putQuoted_35 : decode cX3_putQuoted 35 = .ok (.iload_n 3, 1) := by decide +kernel
theorem dX3_putQuoted_36 : decode cX3_putQuoted 36 = .ok (.invokevirtual 35, 3) := by decide +kernel
theorem dX3_putQuoted_39 : decode cX3_putQuoted 39 = .ok (.iinc 2 1, 3) := by decide +kernel
theorem dX3_putQuoted_42 : decode cX3_putQuoted 42 = .ok (.goto (-40), 3) := by decide +kernel
theorem dX3_putQuoted_45 : decode cX3_putQuoted 45 = .ok (.return_, 1) := by decide +kernel
theorem dX3_putEnd_0 : decode cX3_putEnd 0 = .ok (.aload_n 2, 1) := by decide +kernel
theorem dX3_putEnd_1 : decode cX3_putEnd 1 = .ok (.invokestatic 89, 3) := by decide +kernel
theorem dX3_putEnd_4 : decode cX3_putEnd 4 = .ok (.aload_n 2, 1) := by decide +kernel
theorem dX3_putEnd_5 : decode cX3_putEnd 5 = .ok (.aload_n 1, 1) := by decide +kernel
theorem dX3_putEnd_6 : decode cX3_putEnd 6 = .ok (.getfield 92, 3) := by decide +kernel
theorem dX3_putEnd_9 : decode cX3_putEnd 9 = .ok (.invokestatic 95, 3) := by decide +kernel
theorem dX3_putEnd_12 : decode cX3_putEnd 12 = .ok (.invokevirtual 53, 3) := by decide +kernel
theorem dX3_putEnd_15 : decode cX3_putEnd 15 = .ok (.return_, 1) := by decide +kernel
theorem dX3_putGap_0 : decode cX3_putGap 0 = .ok (.aload_n 0, 1) := by decide +kernel
theorem dX3_putGap_1 : decode cX3_putGap 1 = .ok (.aload_n 0, 1) := by decide +kernel
theorem dX3_putGap_2 : decode cX3_putGap 2 = .ok (.invokevirtual 82, 3) := by decide +kernel
theorem dX3_putGap_5 : decode cX3_putGap 5 = .ok (.iconst 1, 1) := by decide +kernel
theorem dX3_putGap_6 : decode cX3_putGap 6 = .ok (.isub, 1) := by decide +kernel
theorem dX3_putGap_7 : decode cX3_putGap 7 = .ok (.invokevirtual 86, 3) := by decide +kernel
theorem dX3_putGap_10 : decode cX3_putGap 10 = .ok (.istore_n 1, 1) := by decide +kernel
theorem dX3_putGap_11 : decode cX3_putGap 11 = .ok (.iload_n 1, 1) := by decide +kernel
theorem dX3_putGap_12 : decode cX3_putGap 12 = .ok (.ifCond .eq 21, 3) := by decide +kernel
theorem dX3_putGap_15 : decode cX3_putGap 15 = .ok (.iload_n 1, 1) := by decide +kernel
theorem dX3_putGap_16 : decode cX3_putGap 16 = .ok (.bipush 10, 2) := by decide +kernel
theorem dX3_putGap_18 : decode cX3_putGap 18 = .ok (.if_icmp .eq 15, 3) := by decide +kernel
theorem dX3_putGap_21 : decode cX3_putGap 21 = .ok (.iload_n 1, 1) := by decide +kernel
theorem dX3_putGap_22 : decode cX3_putGap 22 = .ok (.bipush 40, 2) := by decide +kernel
theorem dX3_putGap_24 : decode cX3_putGap 24 = .ok (.if_icmp .eq 9, 3) := by decide +kernel
theorem dX3_putGap_27 : decode cX3_putGap 27 = .ok (.aload_n 0, 1) := by decide +kernel
theorem dX3_putGap_28 : decode cX3_putGap 28 = .ok (.bipush 32, 2) := by decide +kernel
theorem dX3_putGap_30 : decode cX3_putGap 30 = .ok (.invokevirtual 35, 3) := by decide +kernel
theorem dX3_putGap_33 : decode cX3_putGap 33 = .ok (.return_, 1) := by decide +kernel
theorem dX3_putRemark_0 : decode cX3_putRemark 0 = .ok (.aload_n 0, 1) := by decide +kernel
theorem dX3_putRemark_1 : decode cX3_putRemark 1 = .ok (.getfield 99, 3) := by decide +kernel
theorem dX3_putRemark_4 : decode cX3_putRemark 4 = .ok (.invokevirtual 82, 3) := by decide +kernel
theorem dX3_putRemark_7 : decode cX3_putRemark 7 = .ok (.ifCond .ne 4, 3) := by decide +kernel
theorem dX3_putRemark_10 : decode cX3_putRemark 10 = .ok (.return_, 1) := by decide +kernel
theorem dX3_putRemark_11 : decode cX3_putRemark 11 = .ok (.aload_n 1, 1) := by decide +kernel
theorem dX3_putRemark_12 : decode cX3_putRemark 12 = .ok (.invokestatic 89, 3) := by decide +kernel
theorem dX3_putRemark_15 : decode cX3_putRemark 15 = .ok (.aload_n 1, 1) := by decide +kernel
theorem dX3_putRemark_16 : decode cX3_putRemark 16 = .ok (.bipush 123, 2) := by decide +kernel
theorem dX3_putRemark_18 : decode cX3_putRemark 18 = .ok (.invokevirtual 35, 3) := by decide +kernel
theorem dX3_putRemark_21 : decode cX3_putRemark 21 = .ok (.aload_n 1, 1) := by decide +kernel
theorem dX3_putRemark_22 : decode cX3_putRemark 22 = .ok (.aload_n 0, 1) := by decide +kernel
theorem dX3_putRemark_23 : decode cX3_putRemark 23 = .ok (.getfield 99, 3) := by decide +kernel
theorem dX3_putRemark_26 : decode cX3_putRemark 26 = .ok (.invokevirtual 47, 3) := by decide +kernel
theorem dX3_putRemark_29 : decode cX3_putRemark 29 = .ok (.aload_n 1, 1) := by decide +kernel
theorem dX3_putRemark_30 : decode cX3_putRemark 30 = .ok (.bipush 125, 2) := by decide +kernel
theorem dX3_putRemark_32 : decode cX3_putRemark 32 = .ok (.invokevirtual 35, 3) := by decide +kernel
theorem dX3_putRemark_35 : decode cX3_putRemark 35 = .ok (.return_, 1) := by decide +kernel
theorem dX3_putLine_0 : decode cX3_putLine 0 = .ok (.iload_n 3, 1) := by decide +kernel
theorem dX3_putLine_1 : decode cX3_putLine 1 = .ok (.bipush 6, 2) := by decide +kernel
theorem dX3_putLine_3 : decode cX3_putLine 3 = .ok (.if_icmp .le 4, 3) := by decide +kernel
theorem dX3_putLine_6 : decode cX3_putLine 6 = .ok (.return_, 1) := by decide +kernel
theorem dX3_putLine_7 : decode cX3_putLine 7 = .ok (.aload_n 0, 1) := by decide +kernel
theorem dX3_putLine_8 : decode cX3_putLine 8 = .ok (.getfield 20, 3) := by decide +kernel
theorem dX3_putLine_11 : decode cX3_putLine 11 = .ok (.iload_n 3, 1) := by decide +kernel
theorem dX3_putLine_12 : decode cX3_putLine 12 = .ok (.aaload, 1) := by decide +kernel
theorem dX3_putLine_13 : decode cX3_putLine 13 = .ok (.astore 5, 2) := by decide +kernel
theorem dX3_putLine_15 : decode cX3_putLine 15 = .ok (.iconst 1, 1) := by decide +kernel
theorem dX3_putLine_16 : decode cX3_putLine 16 = .ok (.istore 6, 2) := by decide +kernel
theorem dX3_putLine_18 : decode cX3_putLine 18 = .ok (.iload_n 2, 1) := by decide +kernel
theorem dX3_putLine_19 : decode cX3_putLine 19 = .ok (.istore 7, 2) := by decide +kernel
theorem dX3_putLine_21 : decode cX3_putLine 21 = .ok (.iconst 0, 1) := by decide +kernel
theorem dX3_putLine_22 : decode cX3_putLine 22 = .ok (.istore 8, 2) := by decide +kernel
theorem dX3_putLine_24 : decode cX3_putLine 24 = .ok (.iload 8, 2) := by decide +kernel
theorem dX3_putLine_26 : decode cX3_putLine 26 = .ok (.sipush 300, 3) := by decide +kernel
theorem dX3_putLine_29 : decode cX3_putLine 29 = .ok (.if_icmp .ge 177, 3) := by decide +kernel
theorem dX3_putLine_32 : decode cX3_putLine 32 = .ok (.iload 7, 2) := by decide +kernel
theorem dX3_putLine_34 : decode cX3_putLine 34 = .ok (.iconst (-1), 1) := by decide +kernel
theorem dX3_putLine_35 : decode cX3_putLine 35 = .ok (.if_icmp .eq 171, 3) := by decide +kernel
theorem dX3_putLine_38 : decode cX3_putLine 38 = .ok (.aload_n 1, 1) := by decide +kernel
theorem dX3_putLine_39 : decode cX3_putLine 39 = .ok (.iload 7, 2) := by decide +kernel
theorem dX3_putLine_41 : decode cX3_putLine 41 = .ok (.invokevirtual 66, 3) := by decide +kernel
theorem dX3_putLine_44 : decode cX3_putLine 44 = .ok (.astore 9, 2) := by decide +kernel
theorem dX3_putLine_46 : decode cX3_putLine 46 = .ok (.aload_n 0, 1) := by decide +kernel
theorem dX3_putLine_47 : decode cX3_putLine 47 = .ok (.aload 5, 2) := by decide +kernel
theorem dX3_putLine_49 : decode cX3_putLine 49 = .ok (.aload 9, 2) := by decide +kernel
theorem dX3_putLine_51 : decode cX3_putLine 51 = .ok (.iload 6, 2) := by decide +kernel
theorem dX3_putLine_53 : decode cX3_putLine 53 = .ok (.aload 4, 2) := by decide +kernel
theorem dX3_putLine_55 : decode cX3_putLine 55 = .ok (.invokevirtual 104, 3) := by decide +kernel
theorem dX3_putLine_58 : decode cX3_putLine 58 = .ok (.aload 9, 2) := by decide +kernel
theorem dX3_putLine_60 : decode cX3_putLine 60 = .ok (.getfield 99, 3) := by decide +kernel
theorem dX3_putLine_63 : decode cX3_putLine 63 = .ok (.invokevirtual 82, 3) := by decide +kernel
theorem dX3_putLine_66 : decode cX3_putLine 66 = .ok (.ifCond .le 7, 3) := by decide +kernel
theorem dX3_putLine_69 : decode cX3_putLine 69 = .ok (.iconst 1, 1) := by decide +kernel
theorem dX3_putLine_70 : decode cX3_putLine 70 = .ok (.goto 4, 3) := by decide +kernel
theorem dX3_putLine_73 : decode cX3_putLine 73 = .ok (.iconst 0, 1) := by decide +kernel
theorem dX3_putLine_74 : decode cX3_putLine 74 = .ok (.istore 6, 2) := by decide +kernel
theorem dX3_putLine_76 : decode cX3_putLine 76 = .ok (.aload_n 1, 1) := by decide +kernel
theorem dX3_putLine_77 : decode cX3_putLine 77 = .ok (.iload 7, 2) := by decide +kernel
theorem dX3_putLine_79 : decode cX3_putLine 79 = .ok (.invokevirtual 108, 3) := by decide +kernel
theorem dX3_putLine_82 : decode cX3_putLine 82 = .ok (.ifCond .eq 11, 3) := by decide +kernel
theorem dX3_putLine_85 : decode cX3_putLine 85 = .ok (.aload 9, 2) := by decide +kernel
theorem dX3_putLine_87 : decode cX3_putLine 87 = .ok (.getfield 112, 3) := by decide +kernel
theorem dX3_putLine_90 : decode cX3_putLine 90 = .ok (.goto 4, 3) := by decide +kernel
theorem dX3_putLine_93 : decode cX3_putLine 93 = .ok (.iconst (-1), 1) := by decide +kernel
theorem dX3_putLine_94 : decode cX3_putLine 94 = .ok (.istore 10, 2) := by decide +kernel
theorem dX3_putLine_96 : decode cX3_putLine 96 = .ok (.iconst 0, 1) := by decide +kernel
theorem dX3_putLine_97 : decode cX3_putLine 97 = .ok (.istore 11, 2) := by decide +kernel
theorem dX3_putLine_99 : decode cX3_putLine 99 = .ok (.iload 11, 2) := by decide +kernel
theorem dX3_putLine_101 : decode cX3_putLine 101 = .ok (.sipush 300, 3) := by decide +kernel
theorem dX3_putLine_104 : decode cX3_putLine 104 = .ok (.if_icmp .ge 79, 3) := by decide +kernel
theorem dX3_putLine_107 : decode cX3_putLine 107 = .ok (.iload 10, 2) := by decide +kernel
theorem dX3_putLine_109 : decode cX3_putLine 109 = .ok (.iconst (-1), 1) := by decide +kernel
theorem dX3_putLine_110 : decode cX3_putLine 110 = .ok (.if_icmp .eq 73, 3) := by decide +kernel
theorem dX3_putLine_113 : decode cX3_putLine 113 = .ok (.iload_n 3, 1) := by decide +kernel
theorem dX3_putLine_114 : decode cX3_putLine 114 = .ok (.bipush 6, 2) := by decide +kernel
theorem dX3_putLine_116 : decode cX3_putLine 116 = .ok (.if_icmp .ge 67, 3) := by decide +kernel
theorem dX3_putLine_119 : decode cX3_putLine 119 = .ok (.aload_n 0, 1) := by decide +kernel
theorem dX3_putLine_120 : decode cX3_putLine 120 = .ok (.getfield 20, 3) := by decide +kernel
theorem dX3_putLine_123 : decode cX3_putLine 123 = .ok (.iload_n 3, 1) := by decide +kernel
theorem dX3_putLine_124 : decode cX3_putLine 124 = .ok (.iconst 1, 1) := by decide +kernel
theorem dX3_putLine_125 : decode cX3_putLine 125 = .ok (.iadd, 1) := by decide +kernel
theorem dX3_putLine_126 : decode cX3_putLine 126 = .ok (.aaload, 1) := by decide +kernel
theorem dX3_putLine_127 : decode cX3_putLine 127 = .ok (.aload 5, 2) := by decide +kernel
theorem dX3_putLine_129 : decode cX3_putLine 129 = .ok (.invokevirtual 78, 3) := by decide +kernel
theorem dX3_putLine_132 : decode cX3_putLine 132 = .ok (.aload 4, 2) := by decide +kernel
theorem dX3_putLine_134 : decode cX3_putLine 134 = .ok (.invokestatic 89, 3) := by decide +kernel
theorem dX3_putLine_137 : decode cX3_putLine 137 = .ok (.aload 4, 2) := by decide +kernel
theorem dX3_putLine_139 : decode cX3_putLine 139 = .ok (.bipush 40, 2) := by decide +kernel
theorem dX3_putLine_141 : decode cX3_putLine 141 = .ok (.invokevirtual 35, 3) := by decide +kernel
theorem dX3_putLine_144 : decode cX3_putLine 144 = .ok (.aload_n 0, 1) := by decide +kernel
theorem dX3_putLine_145 : decode cX3_putLine 145 = .ok (.aload_n 1, 1) := by decide +kernel
theorem dX3_putLine_146 : decode cX3_putLine 146 = .ok (.iload 10, 2) := by decide +kernel
theorem dX3_putLine_148 : decode cX3_putLine 148 = .ok (.iload_n 3, 1) := by decide +kernel
theorem dX3_putLine_149 : decode cX3_putLine 149 = .ok (.iconst 1, 1) := by decide +kernel
theorem dX3_putLine_150 : decode cX3_putLine 150 = .ok (.iadd, 1) := by decide +kernel
theorem dX3_putLine_151 : decode cX3_putLine 151 = .ok (.aload 4, 2) := by decide +kernel
theorem dX3_putLine_153 : decode cX3_putLine 153 = .ok (.invokevirtual 115, 3) := by decide +kernel
theorem dX3_putLine_156 : decode cX3_putLine 156 = .ok (.aload 4, 2) := by decide +kernel
theorem dX3_putLine_158 : decode cX3_putLine 158 = .ok (.bipush 41, 2) := by decide +kernel
theorem dX3_putLine_160 : decode cX3_putLine 160 = .ok (.invokevirtual 35, 3) := by decide +kernel
theorem dX3_putLine_163 : decode cX3_putLine 163 = .ok (.iconst 1, 1) := by decide +kernel
theorem dX3_putLine_164 : decode cX3_putLine 164 = .ok (.istore 6, 2) := by decide +kernel
theorem dX3_putLine_166 : decode cX3_putLine 166 = .ok (.aload_n 1, 1) := by decide +kernel
theorem dX3_putLine_167 : decode cX3_putLine 167 = .ok (.iload 10, 2) := by decide +kernel
theorem dX3_putLine_169 : decode cX3_putLine 169 = .ok (.invokevirtual 66, 3) := by decide +kernel
theorem dX3_putLine_172 : decode cX3_putLine 172 = .ok (.getfield 112, 3) := by decide +kernel
theorem dX3_putLine_175 : decode cX3_putLine 175 = .ok (.istore 10, 2) := by decide +kernel
theorem dX3_putLine_177 : decode cX3_putLine 177 = .ok (.iinc 11 1, 3) := by decide +kernel
theorem dX3_putLine_180 : decode cX3_putLine 180 = .ok (.goto (-81), 3) := by decide +kernel
theorem dX3_putLine_183 : decode cX3_putLine 183 = .ok (.aload 5, 2) := by decide +kernel
theorem dX3_putLine_185 : decode cX3_putLine 185 = .ok (.aload 9, 2) := by decide +kernel
theorem dX3_putLine_187 : decode cX3_putLine 187 = .ok (.getfield 119, 3) := by decide +kernel
theorem dX3_putLine_190 : decode cX3_putLine 190 = .ok (.invokevirtual 122, 3) := by decide +kernel
theorem dX3_putLine_193 : decode cX3_putLine 193 = .ok (.aload 9, 2) := by decide +kernel
theorem dX3_putLine_195 : decode cX3_putLine 195 = .ok (.getfield 126, 3) := by decide +kernel
theorem dX3_putLine_198 : decode cX3_putLine 198 = .ok (.istore 7, 2) := by decide +kernel
theorem dX3_putLine_200 : decode cX3_putLine 200 = .ok (.iinc 8 1, 3) := by decide +kernel
theorem dX3_putLine_203 : decode cX3_putLine 203 = .ok (.goto (-179), 3) := by decide +kernel
theorem dX3_putLine_206 : decode cX3_putLine 206 = .ok (.return_, 1) := by decide +kernel
theorem dX3_putMove_0 : decode cX3_putMove 0 = .ok (.aload_n 1, 1) := by decide +kernel
theorem dX3_putMove_1 : decode cX3_putMove 1 = .ok (.getfield 129, 3) := by decide +kernel
theorem dX3_putMove_4 : decode cX3_putMove 4 = .ok (.ifCond .eq 7, 3) := by decide +kernel
theorem dX3_putMove_7 : decode cX3_putMove 7 = .ok (.iload_n 3, 1) := by decide +kernel
theorem dX3_putMove_8 : decode cX3_putMove 8 = .ok (.ifCond .eq 36, 3) := by decide +kernel
theorem dX3_putMove_11 : decode cX3_putMove 11 = .ok (.aload 4, 2) := by decide +kernel
theorem dX3_putMove_13 : decode cX3_putMove 13 = .ok (.invokestatic 89, 3) := by decide +kernel
theorem dX3_putMove_16 : decode cX3_putMove 16 = .ok (.aload 4, 2) := by decide +kernel
theorem dX3_putMove_18 : decode cX3_putMove 18 = .ok (.aload_n 1, 1) := by decide +kernel
theorem dX3_putMove_19 : decode cX3_putMove 19 = .ok (.getfield 132, 3) := by decide +kernel
theorem dX3_putMove_22 : decode cX3_putMove 22 = .ok (.invokevirtual 135, 3) := by decide +kernel
theorem dX3_putMove_25 : decode cX3_putMove 25 = .ok (.aload 4, 2) := by decide +kernel
theorem dX3_putMove_27 : decode cX3_putMove 27 = .ok (.aload_n 1, 1) := by decide +kernel
theorem dX3_putMove_28 : decode cX3_putMove 28 = .ok (.getfield 129, 3) := by decide +kernel
theorem dX3_putMove_31 : decode cX3_putMove 31 = .ok (.ifCond .ne 8, 3) := by decide +kernel
theorem dX3_putMove_34 : decode cX3_putMove 34 = .ok (.ldc 138, 2) := by decide +kernel
theorem dX3_putMove_36 : decode cX3_putMove 36 = .ok (.goto 5, 3) := by decide +kernel
theorem dX3_putMove_39 : decode cX3_putMove 39 = .ok (.ldc 140, 2) := by decide +kernel
theorem dX3_putMove_41 : decode cX3_putMove 41 = .ok (.invokevirtual 53, 3) := by decide +kernel
theorem dX3_putMove_44 : decode cX3_putMove 44 = .ok (.aload 4, 2) := by decide +kernel
theorem dX3_putMove_46 : decode cX3_putMove 46 = .ok (.invokestatic 89, 3) := by decide +kernel
theorem dX3_putMove_49 : decode cX3_putMove 49 = .ok (.aload_n 0, 1) := by decide +kernel
theorem dX3_putMove_50 : decode cX3_putMove 50 = .ok (.getfield 12, 3) := by decide +kernel
theorem dX3_putMove_53 : decode cX3_putMove 53 = .ok (.aload_n 1, 1) := by decide +kernel
theorem dX3_putMove_54 : decode cX3_putMove 54 = .ok (.aload_n 2, 1) := by decide +kernel
theorem dX3_putMove_55 : decode cX3_putMove 55 = .ok (.getfield 119, 3) := by decide +kernel
theorem dX3_putMove_58 : decode cX3_putMove 58 = .ok (.aload 4, 2) := by decide +kernel
theorem dX3_putMove_60 : decode cX3_putMove 60 = .ok (.invokevirtual 142, 3) := by decide +kernel
theorem dX3_putMove_63 : decode cX3_putMove 63 = .ok (.iconst 0, 1) := by decide +kernel
theorem dX3_putMove_64 : decode cX3_putMove 64 = .ok (.istore 5, 2) := by decide +kernel
theorem dX3_putMove_66 : decode cX3_putMove 66 = .ok (.iload 5, 2) := by decide +kernel
theorem dX3_putMove_68 : decode cX3_putMove 68 = .ok (.aload_n 2, 1) := by decide +kernel
theorem dX3_putMove_69 : decode cX3_putMove 69 = .ok (.getfield 146, 3) := by decide +kernel
theorem dX3_putMove_72 : decode cX3_putMove 72 = .ok (.if_icmp .ge 32, 3) := by decide +kernel
theorem dX3_putMove_75 : decode cX3_putMove 75 = .ok (.aload 4, 2) := by decide +kernel
theorem dX3_putMove_77 : decode cX3_putMove 77 = .ok (.invokestatic 89, 3) := by decide +kernel
theorem dX3_putMove_80 : decode cX3_putMove 80 = .ok (.aload 4, 2) := by decide +kernel
theorem dX3_putMove_82 : decode cX3_putMove 82 = .ok (.bipush 36, 2) := by decide +kernel
theorem dX3_putMove_84 : decode cX3_putMove 84 = .ok (.invokevirtual 35, 3) := by decide +kernel
theorem dX3_putMove_87 : decode cX3_putMove 87 = .ok (.aload 4, 2) := by decide +kernel
theorem dX3_putMove_89 : decode cX3_putMove 89 = .ok (.aload_n 2, 1) := by decide +kernel
theorem dX3_putMove_90 : decode cX3_putMove 90 = .ok (.iload 5, 2) := by decide +kernel
theorem dX3_putMove_92 : decode cX3_putMove 92 = .ok (.invokevirtual 149, 3) := by decide +kernel
theorem dX3_putMove_95 : decode cX3_putMove 95 = .ok (.invokevirtual 135, 3) := by decide +kernel
theorem dX3_putMove_98 : decode cX3_putMove 98 = .ok (.iinc 5 1, 3) := by decide +kernel
theorem dX3_putMove_101 : decode cX3_putMove 101 = .ok (.goto (-35), 3) := by decide +kernel
theorem dX3_putMove_104 : decode cX3_putMove 104 = .ok (.aload_n 2, 1) := by decide +kernel
theorem dX3_putMove_105 : decode cX3_putMove 105 = .ok (.aload 4, 2) := by decide +kernel
theorem dX3_putMove_107 : decode cX3_putMove 107 = .ok (.invokestatic 70, 3) := by decide +kernel
theorem dX3_putMove_110 : decode cX3_putMove 110 = .ok (.return_, 1) := by decide +kernel
theorem dX4_init_0 : decode cX4_init 0 = .ok (.aload_n 0, 1) := by decide +kernel
theorem dX4_init_1 : decode cX4_init 1 = .ok (.invokespecial 3, 3) := by decide +kernel
theorem dX4_init_4 : decode cX4_init 4 = .ok (.aload_n 0, 1) := by decide +kernel
theorem dX4_init_5 : decode cX4_init 5 = .ok (.iconst (-1), 1) := by decide +kernel
theorem dX4_init_6 : decode cX4_init 6 = .ok (.putfield 9, 3) := by decide +kernel
theorem dX4_init_9 : decode cX4_init 9 = .ok (.aload_n 0, 1) := by decide +kernel
theorem dX4_init_10 : decode cX4_init 10 = .ok (.iconst (-1), 1) := by decide +kernel
theorem dX4_init_11 : decode cX4_init 11 = .ok (.putfield 15, 3) := by decide +kernel
theorem dX4_init_14 : decode cX4_init 14 = .ok (.aload_n 0, 1) := by decide +kernel
theorem dX4_init_15 : decode cX4_init 15 = .ok (.iconst (-1), 1) := by decide +kernel
theorem dX4_init_16 : decode cX4_init 16 = .ok (.putfield 18, 3) := by decide +kernel
theorem dX4_init_19 : decode cX4_init 19 = .ok (.aload_n 0, 1) := by decide +kernel
theorem dX4_init_20 : decode cX4_init 20 = .ok (.iconst (-1), 1) := by decide +kernel
theorem dX4_init_21 : decode cX4_init 21 = .ok (.putfield 21, 3) := by decide +kernel
theorem dX4_init_24 : decode cX4_init 24 = .ok (.aload_n 0, 1) := by decide +kernel
theorem dX4_init_25 : decode cX4_init 25 = .ok (.iconst 0, 1) := by decide +kernel
theorem dX4_init_26 : decode cX4_init 26 = .ok (.putfield 24, 3) := by decide +kernel
theorem dX4_init_29 : decode cX4_init 29 = .ok (.aload_n 0, 1) := by decide +kernel
theorem dX4_init_30 : decode cX4_init 30 = .ok (.iconst 0, 1) := by decide +kernel
theorem dX4_init_31 : decode cX4_init 31 = .ok (.putfield 27, 3) := by decide +kernel
theorem dX4_init_34 : decode cX4_init 34 = .ok (.aload_n 0, 1) := by decide +kernel
theorem dX4_init_35 : decode cX4_init 35 = .ok (.new 30, 3) := by decide +kernel
theorem dX4_init_38 : decode cX4_init 38 = .ok (.dup, 1) := by decide +kernel
theorem dX4_init_39 : decode cX4_init 39 = .ok (.invokespecial 32, 3) := by decide +kernel
theorem dX4_init_42 : decode cX4_init 42 = .ok (.putfield 33, 3) := by decide +kernel
theorem dX4_init_45 : decode cX4_init 45 = .ok (.return_, 1) := by decide +kernel
theorem dX4_become_0 : decode cX4_become 0 = .ok (.aload_n 0, 1) := by decide +kernel
theorem dX4_become_1 : decode cX4_become 1 = .ok (.iload_n 1, 1) := by decide +kernel
theorem dX4_become_2 : decode cX4_become 2 = .ok (.putfield 9, 3) := by decide +kernel
theorem dX4_become_5 : decode cX4_become 5 = .ok (.aload_n 0, 1) := by decide +kernel
theorem dX4_become_6 : decode cX4_become 6 = .ok (.iload_n 2, 1) := by decide +kernel
theorem dX4_become_7 : decode cX4_become 7 = .ok (.putfield 15, 3) := by decide +kernel
theorem dX4_become_10 : decode cX4_become 10 = .ok (.aload_n 0, 1) := by decide +kernel
theorem dX4_become_11 : decode cX4_become 11 = .ok (.iconst (-1), 1) := by decide +kernel
theorem dX4_become_12 : decode cX4_become 12 = .ok (.putfield 18, 3) := by decide +kernel
theorem dX4_become_15 : decode cX4_become 15 = .ok (.aload_n 0, 1) := by decide +kernel
theorem dX4_become_16 : decode cX4_become 16 = .ok (.iconst (-1), 1) := by decide +kernel
theorem dX4_become_17 : decode cX4_become 17 = .ok (.putfield 21, 3) := by decide +kernel
theorem dX4_become_20 : decode cX4_become 20 = .ok (.aload_n 0, 1) := by decide +kernel
theorem dX4_become_21 : decode cX4_become 21 = .ok (.iconst 0, 1) := by decide +kernel
theorem dX4_become_22 : decode cX4_become 22 = .ok (.putfield 24, 3) := by decide +kernel
theorem dX4_become_25 : decode cX4_become 25 = .ok (.aload_n 0, 1) := by decide +kernel
theorem dX4_become_26 : decode cX4_become 26 = .ok (.iconst 0, 1) := by decide +kernel
theorem dX4_become_27 : decode cX4_become 27 = .ok (.putfield 27, 3) := by decide +kernel
theorem dX4_become_30 : decode cX4_become 30 = .ok (.aload_n 0, 1) := by decide +kernel
theorem dX4_become_31 : decode cX4_become 31 = .ok (.getfield 33, 3) := by decide +kernel
theorem dX4_become_34 : decode cX4_become 34 = .ok (.iconst 0, 1) := by decide +kernel
theorem dX4_become_35 : decode cX4_become 35 = .ok (.invokevirtual 37, 3) := by decide +kernel
theorem dX4_become_38 : decode cX4_become 38 = .ok (.return_, 1) := by decide +kernel
theorem dX4_markAt_0 : decode cX4_markAt 0 = .ok (.aload_n 0, 1) := by decide +kernel
theorem dX4_markAt_1 : decode cX4_markAt 1 = .ok (.getfield 27, 3) := by decide +kernel
theorem dX4_markAt_4 : decode cX4_markAt 4 = .ok (.bipush 8, 2) := by decide +kernel
theorem dX4_markAt_6 : decode cX4_markAt 6 = .ok (.iload_n 1, 1) := by decide +kernel
theorem dX4_markAt_7 : decode cX4_markAt 7 = .ok (.imul, 1) := by decide +kernel
theorem dX4_markAt_8 : decode cX4_markAt 8 = .ok (.iushr, 1) := by decide +kernel
theorem dX4_markAt_9 : decode cX4_markAt 9 = .ok (.sipush 255, 3) := by decide +kernel
theorem dX4_markAt_12 : decode cX4_markAt 12 = .ok (.iand, 1) := by decide +kernel
theorem dX4_markAt_13 : decode cX4_markAt 13 = .ok (.ireturn, 1) := by decide +kernel
theorem dX4_putMark_0 : decode cX4_putMark 0 = .ok (.aload_n 0, 1) := by decide +kernel
theorem dX4_putMark_1 : decode cX4_putMark 1 = .ok (.dup, 1) := by decide +kernel
theorem dX4_putMark_2 : decode cX4_putMark 2 = .ok (.getfield 27, 3) := by decide +kernel
theorem dX4_putMark_5 : decode cX4_putMark 5 = .ok (.iload_n 1, 1) := by decide +kernel
theorem dX4_putMark_6 : decode cX4_putMark 6 = .ok (.bipush 8, 2) := by decide +kernel
theorem dX4_putMark_8 : decode cX4_putMark 8 = .ok (.aload_n 0, 1) := by decide +kernel
theorem dX4_putMark_9 : decode cX4_putMark 9 = .ok (.getfield 24, 3) := by decide +kernel
theorem dX4_putMark_12 : decode cX4_putMark 12 = .ok (.imul, 1) := by decide +kernel
theorem dX4_putMark_13 : decode cX4_putMark 13 = .ok (.ishl, 1) := by decide +kernel
theorem dX4_putMark_14 : decode cX4_putMark 14 = .ok (.ior, 1) := by decide +kernel
theorem dX4_putMark_15 : decode cX4_putMark 15 = .ok (.putfield 27, 3) := by decide +kernel
theorem dX4_putMark_18 : decode cX4_putMark 18 = .ok (.aload_n 0, 1) := by decide +kernel
theorem dX4_putMark_19 : decode cX4_putMark 19 = .ok (.dup, 1) := by decide +kernel
theorem dX4_putMark_20 : decode cX4_putMark 20 = .ok (.getfield 24, 3) := by decide +kernel
theorem dX4_putMark_23 : decode cX4_putMark 23 = .ok (.iconst 1, 1) := by decide +kernel
theorem dX4_putMark_24 : decode cX4_putMark 24 = .ok (.iadd, 1) := by decide +kernel
theorem dX4_putMark_25 : decode cX4_putMark 25 = .ok (.putfield 24, 3) := by decide +kernel
theorem dX4_putMark_28 : decode cX4_putMark 28 = .ok (.return_, 1) := by decide +kernel
theorem dX4_joinRemark_0 : decode cX4_joinRemark 0 = .ok (.iload_n 3, 1) := by decide +kernel
theorem dX4_joinRemark_1 : decode cX4_joinRemark 1 = .ok (.iload_n 2, 1) := by decide +kernel
theorem dX4_joinRemark_2 : decode cX4_joinRemark 2 = .ok (.if_icmp .gt 5, 3) := by decide +kernel
theorem dX4_joinRemark_5 : decode cX4_joinRemark 5 = .ok (.iconst 1, 1) := by decide +kernel
theorem dX4_joinRemark_6 : decode cX4_joinRemark 6 = .ok (.ireturn, 1) := by decide +kernel
theorem dX4_joinRemark_7 : decode cX4_joinRemark 7 = .ok (.aload_n 0, 1) := by decide +kernel
theorem dX4_joinRemark_8 : decode cX4_joinRemark 8 = .ok (.getfield 33, 3) := by decide +kernel
theorem dX4_joinRemark_11 : decode cX4_joinRemark 11 = .ok (.invokevirtual 41, 3) := by decide +kernel
theorem dX4_joinRemark_14 : decode cX4_joinRemark 14 = .ok (.ifCond .le 7, 3) := by decide +kernel
theorem dX4_joinRemark_17 : decode cX4_joinRemark 17 = .ok (.iconst 1, 1) := by decide +kernel
theorem dX4_joinRemark_18 : decode cX4_joinRemark 18 = .ok (.goto 4, 3) := by decide +kernel
theorem dX4_joinRemark_21 : decode cX4_joinRemark 21 = .ok (.iconst 0, 1) := by decide +kernel
theorem dX4_joinRemark_22 : decode cX4_joinRemark 22 = .ok (.istore 4, 2) := by decide +kernel
theorem dX4_joinRemark_24 : decode cX4_joinRemark 24 = .ok (.aload_n 0, 1) := by decide +kernel
theorem dX4_joinRemark_25 : decode cX4_joinRemark 25 = .ok (.getfield 33, 3) := by decide +kernel
theorem dX4_joinRemark_28 : decode cX4_joinRemark 28 = .ok (.invokevirtual 41, 3) := by decide +kernel
theorem dX4_joinRemark_31 : decode cX4_joinRemark 31 = .ok (.iload 4, 2) := by decide +kernel
theorem dX4_joinRemark_33 : decode cX4_joinRemark 33 = .ok (.iadd, 1) := by decide +kernel
theorem dX4_joinRemark_34 : decode cX4_joinRemark 34 = .ok (.iload_n 3, 1) := by decide +kernel
theorem dX4_joinRemark_35 : decode cX4_joinRemark 35 = .ok (.iadd, 1) := by decide +kernel
theorem dX4_joinRemark_36 : decode cX4_joinRemark 36 = .ok (.iload_n 2, 1) := by decide +kernel
theorem dX4_joinRemark_37 : decode cX4_joinRemark 37 = .ok (.isub, 1) := by decide +kernel
theorem dX4_joinRemark_38 : decode cX4_joinRemark 38 = .ok (.sipush 200, 3) := by decide +kernel
theorem dX4_joinRemark_41 : decode cX4_joinRemark 41 = .ok (.if_icmp .le 5, 3) := by decide +kernel
theorem dX4_joinRemark_44 : decode cX4_joinRemark 44 = .ok (.iconst 0, 1) := by decide +kernel
theorem dX4_joinRemark_45 : decode cX4_joinRemark 45 = .ok (.ireturn, 1) := by decide +kernel
theorem dX4_joinRemark_46 : decode cX4_joinRemark 46 = .ok (.iload 4, 2) := by decide +kernel
theorem dX4_joinRemark_48 : decode cX4_joinRemark 48 = .ok (.iconst 1, 1) := by decide +kernel
theorem dX4_joinRemark_49 : decode cX4_joinRemark 49 = .ok (.if_icmp .ne 12, 3) := by decide +kernel
theorem dX4_joinRemark_52 : decode cX4_joinRemark 52 = .ok (.aload_n 0, 1) := by decide +kernel
theorem dX4_joinRemark_53 : decode cX4_joinRemark 53 = .ok (.getfield 33, 3) := by decide +kernel
theorem dX4_joinRemark_56 : decode cX4_joinRemark 56 = .ok (.bipush 32, 2) := by decide +kernel
theorem dX4_joinRemark_58 : decode cX4_joinRemark 58 = .ok (.invokevirtual 45, 3) := by decide +kernel
theorem dX4_joinRemark_61 : decode cX4_joinRemark 61 = .ok (.iload_n 2, 1) := by decide +kernel
theorem dX4_joinRemark_62 : decode cX4_joinRemark 62 = .ok (.istore 5, 2) := by decide +kernel
theorem dX4_joinRemark_64 : decode cX4_joinRemark 64 = .ok (.iload 5, 2) := by decide +kernel
theorem dX4_joinRemark_66 : decode cX4_joinRemark 66 = .ok (.iload_n 3, 1) := by decide +kernel
theorem dX4_joinRemark_67 : decode cX4_joinRemark 67 = .ok (.if_icmp .ge 38, 3) := by decide +kernel
theorem dX4_joinRemark_70 : decode cX4_joinRemark 70 = .ok (.aload_n 0, 1) := by decide +kernel
theorem dX4_joinRemark_71 : decode cX4_joinRemark 71 = .ok (.getfield 33, 3) := by decide +kernel
theorem dX4_joinRemark_74 : decode cX4_joinRemark 74 = .ok (.aload_n 1, 1) := by decide +kernel
theorem dX4_joinRemark_75 : decode cX4_joinRemark 75 = .ok (.iload 5, 2) := by decide +kernel
theorem dX4_joinRemark_77 : decode cX4_joinRemark 77 = .ok (.invokevirtual 49, 3) := by decide +kernel
theorem dX4_joinRemark_80 : decode cX4_joinRemark 80 = .ok (.bipush 10, 2) := by decide +kernel
theorem dX4_joinRemark_82 : decode cX4_joinRemark 82 = .ok (.if_icmp .ne 8, 3) := by decide +kernel
theorem dX4_joinRemark_85 : decode cX4_joinRemark 85 = .ok (.bipush 32, 2) := by decide +kernel
theorem dX4_joinRemark_87 : decode cX4_joinRemark 87 = .ok (.goto 9, 3) := by decide +kernel
theorem dX4_joinRemark_90 : decode cX4_joinRemark 90 = .ok (.aload_n 1, 1) := by decide +kernel
theorem dX4_joinRemark_91 : decode cX4_joinRemark 91 = .ok (.iload 5, 2) := by decide +kernel
theorem dX4_joinRemark_93 : decode cX4_joinRemark 93 = .ok (.invokevirtual 49, 3) := by decide +kernel
theorem dX4_joinRemark_96 : decode cX4_joinRemark 96 = .ok (.invokevirtual 45, 3) := by decide +kernel
theorem dX4_joinRemark_99 : decode cX4_joinRemark 99 = .ok (.iinc 5 1, 3) := by decide +kernel
theorem dX4_joinRemark_102 : decode cX4_joinRemark 102 = .ok (.goto (-38), 3) := by decide +kernel
theorem dX4_joinRemark_105 : decode cX4_joinRemark 105 = .ok (.iconst 1, 1) := by decide +kernel
theorem dX4_joinRemark_106 : decode cX4_joinRemark 106 = .ok (.ireturn, 1) := by decide +kernel
theorem dX5_init_0 : decode cX5_init 0 = .ok (.aload_n 0, 1) := by decide +kernel
theorem dX5_init_1 : decode cX5_init 1 = .ok (.invokespecial 3, 3) := by decide +kernel
theorem dX5_init_4 : decode cX5_init 4 = .ok (.aload_n 0, 1) := by decide +kernel
theorem dX5_init_5 : decode cX5_init 5 = .ok (.new 9, 3) := by decide +kernel
theorem dX5_init_8 : decode cX5_init 8 = .ok (.dup, 1) := by decide +kernel
theorem dX5_init_9 : decode cX5_init 9 = .ok (.invokespecial 11, 3) := by decide +kernel
theorem dX5_init_12 : decode cX5_init 12 = .ok (.putfield 12, 3) := by decide +kernel
theorem dX5_init_15 : decode cX5_init 15 = .ok (.aload_n 0, 1) := by decide +kernel
theorem dX5_init_16 : decode cX5_init 16 = .ok (.iconst 0, 1) := by decide +kernel
theorem dX5_init_17 : decode cX5_init 17 = .ok (.putfield 18, 3) := by decide +kernel
theorem dX5_init_20 : decode cX5_init 20 = .ok (.return_, 1) := by decide +kernel
theorem dX5_readInto_0 : decode cX5_readInto 0 = .ok (.aload_n 0, 1) := by decide +kernel
theorem dX5_readInto_1 : decode cX5_readInto 1 = .ok (.aload_n 2, 1) := by decide +kernel
theorem dX5_readInto_2 : decode cX5_readInto 2 = .ok (.putfield 12, 3) := by decide +kernel
theorem dX5_readInto_5 : decode cX5_readInto 5 = .ok (.aload_n 0, 1) := by decide +kernel
theorem dX5_readInto_6 : decode cX5_readInto 6 = .ok (.iconst 0, 1) := by decide +kernel
theorem dX5_readInto_7 : decode cX5_readInto 7 = .ok (.putfield 18, 3) := by decide +kernel
theorem dX5_readInto_10 : decode cX5_readInto 10 = .ok (.aload_n 1, 1) := by decide +kernel
theorem dX5_readInto_11 : decode cX5_readInto 11 = .ok (.invokevirtual 22, 3) := by decide +kernel
theorem dX5_readInto_14 : decode cX5_readInto 14 = .ok (.aload_n 0, 1) := by decide +kernel
theorem dX5_readInto_15 : decode cX5_readInto 15 = .ok (.aload_n 1, 1) := by decide +kernel
theorem dX5_readInto_16 : decode cX5_readInto 16 = .ok (.invokevirtual 27, 3) := by decide +kernel
theorem dX5_readInto_19 : decode cX5_readInto 19 = .ok (.ifCond .eq 126, 3) := by decide +kernel
theorem dX5_readInto_22 : decode cX5_readInto 22 = .ok (.aload_n 0, 1) := by decide +kernel
theorem dX5_readInto_23 : decode cX5_readInto 23 = .ok (.bipush 32, 2) := by decide +kernel
theorem dX5_readInto_25 : decode cX5_readInto 25 = .ok (.invokevirtual 31, 3) := by decide +kernel
theorem dX5_readInto_28 : decode cX5_readInto 28 = .ok (.ifCond .eq 117, 3) := by decide +kernel
theorem dX5_readInto_31 : decode cX5_readInto 31 = .ok (.aload_n 0, 1) := by decide +kernel
theorem dX5_readInto_32 : decode cX5_readInto 32 = .ok (.aload_n 1, 1) := by decide +kernel
theorem dX5_readInto_33 : decode cX5_readInto 33 = .ok (.invokevirtual 35, 3) := by decide +kernel
theorem dX5_readInto_36 : decode cX5_readInto 36 = .ok (.ifCond .eq 109, 3) := by decide +kernel
theorem dX5_readInto_39 : decode cX5_readInto 39 = .ok (.aload_n 0, 1) := by decide +kernel
theorem dX5_readInto_40 : decode cX5_readInto 40 = .ok (.bipush 32, 2) := by decide +kernel
theorem dX5_readInto_42 : decode cX5_readInto 42 = .ok (.invokevirtual 31, 3) := by decide +kernel
theorem dX5_readInto_45 : decode cX5_readInto 45 = .ok (.ifCond .eq 100, 3) := by decide +kernel
theorem dX5_readInto_48 : decode cX5_readInto 48 = .ok (.aload_n 0, 1) := by decide +kernel
theorem dX5_readInto_49 : decode cX5_readInto 49 = .ok (.aload_n 1, 1) := by decide +kernel
theorem dX5_readInto_50 : decode cX5_readInto 50 = .ok (.invokevirtual 38, 3) := by decide +kernel
theorem dX5_readInto_53 : decode cX5_readInto 53 = .ok (.ifCond .eq 92, 3) := by decide +kernel
theorem dX5_readInto_56 : decode cX5_readInto 56 = .ok (.aload_n 0, 1) := by decide +kernel
theorem dX5_readInto_57 : decode cX5_readInto 57 = .ok (.bipush 32, 2) := by decide +kernel
theorem dX5_readInto_59 : decode cX5_readInto 59 = .ok (.invokevirtual 31, 3) := by decide +kernel
theorem dX5_readInto_62 : decode cX5_readInto 62 = .ok (.ifCond .eq 83, 3) := by decide +kernel
theorem dX5_readInto_65 : decode cX5_readInto 65 = .ok (.aload_n 0, 1) := by decide +kernel
theorem dX5_readInto_66 : decode cX5_readInto 66 = .ok (.aload_n 1, 1) := by decide +kernel
theorem dX5_readInto_67 : decode cX5_readInto 67 = .ok (.invokevirtual 41, 3) := by decide +kernel
theorem dX5_readInto_70 : decode cX5_readInto 70 = .ok (.ifCond .eq 75, 3) := by decide +kernel
theorem dX5_readInto_73 : decode cX5_readInto 73 = .ok (.aload_n 0, 1) := by decide +kernel
theorem dX5_readInto_74 : decode cX5_readInto 74 = .ok (.bipush 32, 2) := by decide +kernel
theorem dX5_readInto_76 : decode cX5_readInto 76 = .ok (.invokevirtual 31, 3) := by decide +kernel
theorem dX5_readInto_79 : decode cX5_readInto 79 = .ok (.ifCond .eq 66, 3) := by decide +kernel
theorem dX5_readInto_82 : decode cX5_readInto 82 = .ok (.aload_n 0, 1) := by decide +kernel
theorem dX5_readInto_83 : decode cX5_readInto 83 = .ok (.invokevirtual 44, 3) := by decide +kernel
theorem dX5_readInto_86 : decode cX5_readInto 86 = .ok (.ifCond .lt 59, 3) := by decide +kernel
theorem dX5_readInto_89 : decode cX5_readInto 89 = .ok (.aload_n 0, 1) := by decide +kernel
theorem dX5_readInto_90 : decode cX5_readInto 90 = .ok (.bipush 32, 2) := by decide +kernel
theorem dX5_readInto_92 : decode cX5_readInto 92 = .ok (.invokevirtual 31, 3) := by decide +kernel
theorem dX5_readInto_95 : decode cX5_readInto 95 = .ok (.ifCond .eq 50, 3) := by decide +kernel
theorem dX5_readInto_98 : decode cX5_readInto 98 = .ok (.aload_n 0, 1) := by decide +kernel
theorem dX5_readInto_99 : decode cX5_readInto 99 = .ok (.aload_n 1, 1) := by decide +kernel
theorem dX5_readInto_100 : decode cX5_readInto 100 = .ok (.invokevirtual 48, 3) := by decide +kernel
theorem dX5_readInto_103 : decode cX5_readInto 103 = .ok (.ifCond .eq 42, 3) := by decide +kernel
theorem dX5_readInto_106 : decode cX5_readInto 106 = .ok (.aload_n 0, 1) := by decide +kernel
theorem dX5_readInto_107 : decode cX5_readInto 107 = .ok (.getfield 18, 3) := by decide +kernel
theorem dX5_readInto_110 : decode cX5_readInto 110 = .ok (.aload_n 0, 1) := by decide +kernel
theorem dX5_readInto_111 : decode cX5_readInto 111 = .ok (.getfield 12, 3) := by decide +kernel
theorem dX5_readInto_114 : decode cX5_readInto 114 = .ok (.invokevirtual 51, 3) := by decide +kernel
theorem dX5_readInto_117 : decode cX5_readInto 117 = .ok (.if_icmp .ne 28, 3) := by decide +kernel
theorem dX5_readInto_120 : decode cX5_readInto 120 = .ok (.aload_n 1, 1) := by decide +kernel
theorem dX5_readInto_121 : decode cX5_readInto 121 = .ok (.invokestatic 54, 3) := by decide +kernel
theorem dX5_readInto_124 : decode cX5_readInto 124 = .ok (.ifCond .eq 21, 3) := by decide +kernel
theorem dX5_readInto_127 : decode cX5_readInto 127 = .ok (.aload_n 1, 1) := by decide +kernel
theorem dX5_readInto_128 : decode cX5_readInto 128 = .ok (.invokestatic 57, 3) := by decide +kernel
theorem dX5_readInto_131 : decode cX5_readInto 131 = .ok (.ifCond .eq 14, 3) := by decide +kernel
theorem dX5_readInto_134 : decode cX5_readInto 134 = .ok (.aload_n 1, 1) := by decide +kernel
theorem dX5_readInto_135 : decode cX5_readInto 135 = .ok (.invokestatic 60, 3) := by decide +kernel
theorem dX5_readInto_138 : decode cX5_readInto 138 = .ok (.ifCond .eq 7, 3) := by decide +kernel
theorem dX5_readInto_141 : decode cX5_readInto 141 = .ok (.iconst 1, 1) := by decide +kernel
theorem dX5_readInto_142 : decode cX5_readInto 142 = .ok (.goto 4, 3) := by decide +kernel
theorem dX5_readInto_145 : decode cX5_readInto 145 = .ok (.iconst 0, 1) := by decide +kernel
theorem dX5_readInto_146 : decode cX5_readInto 146 = .ok (.ireturn, 1) := by decide +kernel
theorem dX5_skip_0 : decode cX5_skip 0 = .ok (.aload_n 0, 1) := by decide +kernel
theorem dX5_skip_1 : decode cX5_skip 1 = .ok (.getfield 12, 3) := by decide +kernel
theorem dX5_skip_4 : decode cX5_skip 4 = .ok (.aload_n 0, 1) := by decide +kernel
theorem dX5_skip_5 : decode cX5_skip 5 = .ok (.getfield 18, 3) := by decide +kernel
theorem dX5_skip_8 : decode cX5_skip 8 = .ok (.invokevirtual 63, 3) := by decide +kernel
theorem dX5_skip_11 : decode cX5_skip 11 = .ok (.iload_n 1, 1) := by decide +kernel
theorem dX5_skip_12 : decode cX5_skip 12 = .ok (.if_icmp .eq 5, 3) := by decide +kernel
theorem dX5_skip_15 : decode cX5_skip 15 = .ok (.iconst 0, 1) := by decide +kernel
theorem dX5_skip_16 : decode cX5_skip 16 = .ok (.ireturn, 1) := by decide +kernel
theorem dX5_skip_17 : decode cX5_skip 17 = .ok (.aload_n 0, 1) := by decide +kernel
theorem dX5_skip_18 : decode cX5_skip 18 = .ok (.dup, 1) := by decide +kernel
theorem dX5_skip_19 : decode cX5_skip 19 = .ok (.getfield 18, 3) := by decide +kernel
theorem dX5_skip_22 : decode cX5_skip 22 = .ok (.iconst 1, 1) := by decide +kernel
theorem dX5_skip_23 : decode cX5_skip 23 = .ok (.iadd, 1) := by decide +kernel
theorem dX5_skip_24 : decode cX5_skip 24 = .ok (.putfield 18, 3) := by decide +kernel
theorem dX5_skip_27 : decode cX5_skip 27 = .ok (.iconst 1, 1) := by decide +kernel
theorem dX5_skip_28 : decode cX5_skip 28 = .ok (.ireturn, 1) := by decide +kernel
theorem dX5_readMen_0 : decode cX5_readMen 0 = .ok (.bipush 7, 2) := by decide +kernel
theorem dX5_readMen_2 : decode cX5_readMen 2 = .ok (.istore_n 2, 1) := by decide +kernel
theorem dX5_readMen_3 : decode cX5_readMen 3 = .ok (.iload_n 2, 1) := by decide +kernel
theorem dX5_readMen_4 : decode cX5_readMen 4 = .ok (.ifCond .lt 38, 3) := by decide +kernel
theorem dX5_readMen_7 : decode cX5_readMen 7 = .ok (.iload_n 2, 1) := by decide +kernel
theorem dX5_readMen_8 : decode cX5_readMen 8 = .ok (.bipush 7, 2) := by decide +kernel
theorem dX5_readMen_10 : decode cX5_readMen 10 = .ok (.if_icmp .ge 12, 3) := by decide +kernel
theorem dX5_readMen_13 : decode cX5_readMen 13 = .ok (.aload_n 0, 1) := by decide +kernel
theorem dX5_readMen_14 : decode cX5_readMen 14 = .ok (.bipush 47, 2) := by decide +kernel
theorem dX5_readMen_16 : decode cX5_readMen 16 = .ok (.invokevirtual 31, 3) := by decide +kernel
theorem dX5_readMen_19 : decode cX5_readMen 19 = .ok (.ifCond .eq 15, 3) := by decide +kernel
theorem dX5_readMen_22 : decode cX5_readMen 22 = .ok (.aload_n 0, 1) := by decide +kernel
theorem dX5_readMen_23 : decode cX5_readMen 23 = .ok (.aload_n 1, 1) := by decide +kernel
theorem dX5_readMen_24 : decode cX5_readMen 24 = .ok (.bipush 8, 2) := by decide +kernel
theorem dX5_readMen_26 : decode cX5_readMen 26 = .ok (.iload_n 2, 1) := by decide +kernel
theorem dX5_readMen_27 : decode cX5_readMen 27 = .ok (.imul, 1) := by decide +kernel
theorem dX5_readMen_28 : decode cX5_readMen 28 = .ok (.invokevirtual 66, 3) := by decide +kernel
theorem dX5_readMen_31 : decode cX5_readMen 31 = .ok (.ifCond .ne 5, 3) := by decide +kernel
theorem dX5_readMen_34 : decode cX5_readMen 34 = .ok (.iconst 0, 1) := by decide +kernel
theorem dX5_readMen_35 : decode cX5_readMen 35 = .ok (.ireturn, 1) := by decide +kernel
theorem dX5_readMen_36 : decode cX5_readMen 36 = .ok (.iinc 2 (-1), 3) := by decide +kernel
theorem dX5_readMen_39 : decode cX5_readMen 39 = .ok (.goto (-36), 3) := by decide +kernel
theorem dX5_readMen_42 : decode cX5_readMen 42 = .ok (.iconst 1, 1) := by decide +kernel
theorem dX5_readMen_43 : decode cX5_readMen 43 = .ok (.ireturn, 1) := by decide +kernel
theorem dX5_readRank_0 : decode cX5_readRank 0 = .ok (.iconst 0, 1) := by decide +kernel
theorem dX5_readRank_1 : decode cX5_readRank 1 = .ok (.istore_n 3, 1) := by decide +kernel
theorem dX5_readRank_2 : decode cX5_readRank 2 = .ok (.iconst 0, 1) := by decide +kernel
theorem dX5_readRank_3 : decode cX5_readRank 3 = .ok (.istore 4, 2) := by decide +kernel
theorem dX5_readRank_5 : decode cX5_readRank 5 = .ok (.iload 4, 2) := by decide +kernel
theorem dX5_readRank_7 : decode cX5_readRank 7 = .ok (.bipush 8, 2) := by decide +kernel
theorem dX5_readRank_9 : decode cX5_readRank 9 = .ok (.if_icmp .ge 115, 3) := by decide +kernel
theorem dX5_readRank_12 : decode cX5_readRank 12 = .ok (.aload_n 0, 1) := by decide +kernel
theorem dX5_readRank_13 : decode cX5_readRank 13 = .ok (.getfield 12, 3) := by decide +kernel
theorem dX5_readRank_16 : decode cX5_readRank 16 = .ok (.aload_n 0, 1) := by decide +kernel
theorem dX5_readRank_17 : decode cX5_readRank 17 = .ok (.getfield 18, 3) := by decide +kernel
theorem dX5_readRank_20 : decode cX5_readRank 20 = .ok (.invokevirtual 63, 3) := by decide +kernel
theorem dX5_readRank_23 : decode cX5_readRank 23 = .ok (.istore 5, 2) := by decide +kernel
theorem dX5_readRank_25 : decode cX5_readRank 25 = .ok (.iload 5, 2) := by decide +kernel
theorem dX5_readRank_27 : decode cX5_readRank 27 = .ok (.invokestatic 70, 3) := by decide +kernel
theorem dX5_readRank_30 : decode cX5_readRank 30 = .ok (.istore 6, 2) := by decide +kernel
theorem dX5_readRank_32 : decode cX5_readRank 32 = .ok (.iload 5, 2) := by decide +kernel
theorem dX5_readRank_34 : decode cX5_readRank 34 = .ok (.invokestatic 73, 3) := by decide +kernel
theorem dX5_readRank_37 : decode cX5_readRank 37 = .ok (.ifCond .eq 15, 3) := by decide +kernel
theorem dX5_readRank_40 : decode cX5_readRank 40 = .ok (.ldc 76, 2) := by decide +kernel
theorem dX5_readRank_42 : decode cX5_readRank 42 = .ok (.iload 5, 2) := by decide +kernel
theorem dX5_readRank_44 : decode cX5_readRank 44 = .ok (.invokevirtual 78, 3) := by decide +kernel
theorem dX5_readRank_47 : decode cX5_readRank 47 = .ok (.iconst 1, 1) := by decide +kernel
theorem dX5_readRank_48 : decode cX5_readRank 48 = .ok (.iadd, 1) := by decide +kernel
theorem dX5_readRank_49 : decode cX5_readRank 49 = .ok (.goto 4, 3) := by decide +kernel
theorem dX5_readRank_52 : decode cX5_readRank 52 = .ok (.iconst 0, 1) := by decide +kernel
theorem dX5_readRank_53 : decode cX5_readRank 53 = .ok (.istore 7, 2) := by decide +kernel
theorem dX5_readRank_55 : decode cX5_readRank 55 = .ok (.iload 6, 2) := by decide +kernel
theorem dX5_readRank_57 : decode cX5_readRank 57 = .ok (.ifCond .eq 10, 3) := by decide +kernel
theorem dX5_readRank_60 : decode cX5_readRank 60 = .ok (.iload_n 3, 1) := by decide +kernel
theorem dX5_readRank_61 : decode cX5_readRank 61 = .ok (.ifCond .eq 13, 3) := by decide +kernel
theorem dX5_readRank_64 : decode cX5_readRank 64 = .ok (.goto 8, 3) := by decide +kernel
theorem dX5_readRank_67 : decode cX5_readRank 67 = .ok (.iload 7, 2) := by decide +kernel
theorem dX5_readRank_69 : decode cX5_readRank 69 = .ok (.ifCond .ne 5, 3) := by decide +kernel
theorem dX5_readRank_72 : decode cX5_readRank 72 = .ok (.iconst 0, 1) := by decide +kernel
theorem dX5_readRank_73 : decode cX5_readRank 73 = .ok (.ireturn, 1) := by decide +kernel
theorem dX5_readRank_74 : decode cX5_readRank 74 = .ok (.iload 6, 2) := by decide +kernel
theorem dX5_readRank_76 : decode cX5_readRank 76 = .ok (.ifCond .ne 13, 3) := by decide +kernel
theorem dX5_readRank_79 : decode cX5_readRank 79 = .ok (.aload_n 1, 1) := by decide +kernel
theorem dX5_readRank_80 : decode cX5_readRank 80 = .ok (.iload_n 2, 1) := by decide +kernel
theorem dX5_readRank_81 : decode cX5_readRank 81 = .ok (.iload 4, 2) := by decide +kernel
theorem dX5_readRank_83 : decode cX5_readRank 83 = .ok (.iadd, 1) := by decide +kernel
theorem dX5_readRank_84 : decode cX5_readRank 84 = .ok (.iload 7, 2) := by decide +kernel
theorem dX5_readRank_86 : decode cX5_readRank 86 = .ok (.invokevirtual 84, 3) := by decide +kernel
theorem dX5_readRank_89 : decode cX5_readRank 89 = .ok (.iload 4, 2) := by decide +kernel
theorem dX5_readRank_91 : decode cX5_readRank 91 = .ok (.iload 6, 2) := by decide +kernel
theorem dX5_readRank_93 : decode cX5_readRank 93 = .ok (.ifCond .eq 11, 3) := by decide +kernel
theorem dX5_readRank_96 : decode cX5_readRank 96 = .ok (.iload 5, 2) := by decide +kernel
theorem dX5_readRank_98 : decode cX5_readRank 98 = .ok (.bipush 48, 2) := by decide +kernel
theorem dX5_readRank_100 : decode cX5_readRank 100 = .ok (.isub, 1) := by decide +kernel
theorem dX5_readRank_101 : decode cX5_readRank 101 = .ok (.goto 4, 3) := by decide +kernel
theorem dX5_readRank_104 : decode cX5_readRank 104 = .ok (.iconst 1, 1) := by decide +kernel
theorem dX5_readRank_105 : decode cX5_readRank 105 = .ok (.iadd, 1) := by decide +kernel
theorem dX5_readRank_106 : decode cX5_readRank 106 = .ok (.istore 4, 2) := by decide +kernel
theorem dX5_readRank_108 : decode cX5_readRank 108 = .ok (.iload 6, 2) := by decide +kernel
theorem dX5_readRank_110 : decode cX5_readRank 110 = .ok (.istore_n 3, 1) := by decide +kernel
theorem dX5_readRank_111 : decode cX5_readRank 111 = .ok (.aload_n 0, 1) := by decide +kernel
theorem dX5_readRank_112 : decode cX5_readRank 112 = .ok (.dup, 1) := by decide +kernel
theorem dX5_readRank_113 : decode cX5_readRank 113 = .ok (.getfield 18, 3) := by decide +kernel
theorem dX5_readRank_116 : decode cX5_readRank 116 = .ok (.iconst 1, 1) := by decide +kernel
theorem dX5_readRank_117 : decode cX5_readRank 117 = .ok (.iadd, 1) := by decide +kernel
theorem dX5_readRank_118 : decode cX5_readRank 118 = .ok (.putfield 18, 3) := by decide +kernel
theorem dX5_readRank_121 : decode cX5_readRank 121 = .ok (.goto (-116), 3) := by decide +kernel
theorem dX5_readRank_124 : decode cX5_readRank 124 = .ok (.iload 4, 2) := by decide +kernel
theorem dX5_readRank_126 : decode cX5_readRank 126 = .ok (.bipush 8, 2) := by decide +kernel
theorem dX5_readRank_128 : decode cX5_readRank 128 = .ok (.if_icmp .ne 7, 3) := by decide +kernel
theorem dX5_readRank_131 : decode cX5_readRank 131 = .ok (.iconst 1, 1) := by decide +kernel
theorem dX5_readRank_132 : decode cX5_readRank 132 = .ok (.goto 4, 3) := by decide +kernel
theorem dX5_readRank_135 : decode cX5_readRank 135 = .ok (.iconst 0, 1) := by decide +kernel
theorem dX5_readRank_136 : decode cX5_readRank 136 = .ok (.ireturn, 1) := by decide +kernel
theorem dX5_readSide_0 : decode cX5_readSide 0 = .ok (.aload_n 1, 1) := by decide +kernel
theorem dX5_readSide_1 : decode cX5_readSide 1 = .ok (.aload_n 0, 1) := by decide +kernel
theorem dX5_readSide_2 : decode cX5_readSide 2 = .ok (.getfield 12, 3) := by decide +kernel
theorem dX5_readSide_5 : decode cX5_readSide 5 = .ok (.aload_n 0, 1) := by decide +kernel
theorem dX5_readSide_6 : decode cX5_readSide 6 = .ok (.getfield 18, 3) := by decide +kernel
theorem dX5_readSide_9 : decode cX5_readSide 9 = .ok (.invokevirtual 63, 3) := by decide +kernel
theorem dX5_readSide_12 : decode cX5_readSide 12 = .ok (.bipush 98, 2) := by decide +kernel
theorem dX5_readSide_14 : decode cX5_readSide 14 = .ok (.if_icmp .ne 7, 3) := by decide +kernel
theorem dX5_readSide_17 : decode cX5_readSide 17 = .ok (.iconst 1, 1) := by decide +kernel
theorem dX5_readSide_18 : decode cX5_readSide 18 = .ok (.goto 4, 3) := by decide +kernel
theorem dX5_readSide_21 : decode cX5_readSide 21 = .ok (.iconst 0, 1) := by decide +kernel
theorem dX5_readSide_22 : decode cX5_readSide 22 = .ok (.putfield 88, 3) := by decide +kernel
theorem dX5_readSide_25 : decode cX5_readSide 25 = .ok (.aload_n 0, 1) := by decide +kernel
theorem dX5_readSide_26 : decode cX5_readSide 26 = .ok (.bipush 119, 2) := by decide +kernel
theorem dX5_readSide_28 : decode cX5_readSide 28 = .ok (.invokevirtual 31, 3) := by decide +kernel
theorem dX5_readSide_31 : decode cX5_readSide 31 = .ok (.ifCond .ne 12, 3) := by decide +kernel
theorem dX5_readSide_34 : decode cX5_readSide 34 = .ok (.aload_n 0, 1) := by decide +kernel
theorem dX5_readSide_35 : decode cX5_readSide 35 = .ok (.bipush 98, 2) := by decide +kernel
theorem dX5_readSide_37 : decode cX5_readSide 37 = .ok (.invokevirtual 31, 3) := by decide +kernel
theorem dX5_readSide_40 : decode cX5_readSide 40 = .ok (.ifCond .eq 7, 3) := by decide +kernel
theorem dX5_readSide_43 : decode cX5_readSide 43 = .ok (.iconst 1, 1) := by decide +kernel
theorem dX5_readSide_44 : decode cX5_readSide 44 = .ok (.goto 4, 3) := by decide +kernel
theorem dX5_readSide_47 : decode cX5_readSide 47 = .ok (.iconst 0, 1) := by decide +kernel
theorem dX5_readSide_48 : decode cX5_readSide 48 = .ok (.ireturn, 1) := by decide +kernel
theorem dX5_readRights_0 : decode cX5_readRights 0 = .ok (.aload_n 0, 1) := by decide +kernel
theorem dX5_readRights_1 : decode cX5_readRights 1 = .ok (.bipush 45, 2) := by decide +kernel
theorem dX5_readRights_3 : decode cX5_readRights 3 = .ok (.invokevirtual 31, 3) := by decide +kernel
theorem dX5_readRights_6 : decode cX5_readRights 6 = .ok (.ifCond .eq 5, 3) := by decide +kernel
theorem dX5_readRights_9 : decode cX5_readRights 9 = .ok (.iconst 1, 1) := by decide +kernel
theorem dX5_readRights_10 : decode cX5_readRights 10 = .ok (.ireturn, 1) := by decide +kernel
theorem dX5_readRights_11 : decode cX5_readRights 11 = .ok (.iconst 0, 1) := by decide +kernel
theorem dX5_readRights_12 : decode cX5_readRights 12 = .ok (.istore_n 2, 1) := by decide +kernel
theorem dX5_readRights_13 : decode cX5_readRights 13 = .ok (.iload_n 2, 1) := by decide +kernel
theorem dX5_readRights_14 : decode cX5_readRights 14 = .ok (.ldc 91, 2) := by decide +kernel
theorem dX5_readRights_16 : decode cX5_readRights 16 = .ok (.invokevirtual 93, 3) := by decide +kernel
theorem dX5_readRights_19 : decode cX5_readRights 19 = .ok (.if_icmp .ge 34, 3) := by decide +kernel
theorem dX5_readRights_22 : decode cX5_readRights 22 = .ok (.aload_n 0, 1) := by decide +kernel
theorem dX5_readRights_23 : decode cX5_readRights 23 = .ok (.ldc 91, 2) := by decide +kernel
theorem dX5_readRights_25 : decode cX5_readRights 25 = .ok (.iload_n 2, 1) := by decide +kernel
theorem dX5_readRights_26 : decode cX5_readRights 26 = .ok (.invokevirtual 96, 3) := by decide +kernel
theorem dX5_readRights_29 : decode cX5_readRights 29 = .ok (.invokevirtual 31, 3) := by decide +kernel
theorem dX5_readRights_32 : decode cX5_readRights 32 = .ok (.ifCond .eq 15, 3) := by decide +kernel
theorem dX5_readRights_35 : decode cX5_readRights 35 = .ok (.aload_n 1, 1) := by decide +kernel
theorem dX5_readRights_36 : decode cX5_readRights 36 = .ok (.dup, 1) := by decide +kernel
theorem dX5_readRights_37 : decode cX5_readRights 37 = .ok (.getfield 99, 3) := by decide +kernel
theorem dX5_readRights_40 : decode cX5_readRights 40 = .ok (.iconst 1, 1) := by decide +kernel
theorem dX5_readRights_41 : decode cX5_readRights 41 = .ok (.iload_n 2, 1) := by decide +kernel
theorem dX5_readRights_42 : decode cX5_readRights 42 = .ok (.ishl, 1) := by decide +kernel
theorem dX5_readRights_43 : decode cX5_readRights 43 = .ok (.ior, 1) := by decide +kernel
theorem dX5_readRights_44 : decode cX5_readRights 44 = .ok (.putfield 99, 3) := by decide +kernel
theorem dX5_readRights_47 : decode cX5_readRights 47 = .ok (.iinc 2 1, 3) := by decide +kernel
theorem dX5_readRights_50 : decode cX5_readRights 50 = .ok (.goto (-37), 3) := by decide +kernel
theorem dX5_readRights_53 : decode cX5_readRights 53 = .ok (.aload_n 1, 1) := by decide +kernel
theorem dX5_readRights_54 : decode cX5_readRights 54 = .ok (.getfield 99, 3) := by decide +kernel
theorem dX5_readRights_57 : decode cX5_readRights 57 = .ok (.ifCond .eq 7, 3) := by decide +kernel
theorem dX5_readRights_60 : decode cX5_readRights 60 = .ok (.iconst 1, 1) := by decide +kernel
theorem dX5_readRights_61 : decode cX5_readRights 61 = .ok (.goto 4, 3) := by decide +kernel
theorem dX5_readRights_64 : decode cX5_readRights 64 = .ok (.iconst 0, 1) := by decide +kernel
theorem dX5_readRights_65 : decode cX5_readRights 65 = .ok (.ireturn, 1) := by decide +kernel
theorem dX5_readPassed_0 : decode cX5_readPassed 0 = .ok (.aload_n 0, 1) := by decide +kernel
theorem dX5_readPassed_1 : decode cX5_readPassed 1 = .ok (.bipush 45, 2) := by decide +kernel
theorem dX5_readPassed_3 : decode cX5_readPassed 3 = .ok (.invokevirtual 31, 3) := by decide +kernel
theorem dX5_readPassed_6 : decode cX5_readPassed 6 = .ok (.ifCond .eq 5, 3) := by decide +kernel
theorem dX5_readPassed_9 : decode cX5_readPassed 9 = .ok (.iconst 1, 1) := by decide +kernel
theorem dX5_readPassed_10 : decode cX5_readPassed 10 = .ok (.ireturn, 1) := by decide +kernel
theorem dX5_readPassed_11 : decode cX5_readPassed 11 = .ok (.aload_n 1, 1) := by decide +kernel
theorem dX5_readPassed_12 : decode cX5_readPassed 12 = .ok (.aload_n 0, 1) := by decide +kernel
theorem dX5_readPassed_13 : decode cX5_readPassed 13 = .ok (.getfield 12, 3) := by decide +kernel
theorem dX5_readPassed_16 : decode cX5_readPassed 16 = .ok (.aload_n 0, 1) := by decide +kernel
theorem dX5_readPassed_17 : decode cX5_readPassed 17 = .ok (.getfield 18, 3) := by decide +kernel
theorem dX5_readPassed_20 : decode cX5_readPassed 20 = .ok (.invokevirtual 63, 3) := by decide +kernel
theorem dX5_readPassed_23 : decode cX5_readPassed 23 = .ok (.aload_n 0, 1) := by decide +kernel
theorem dX5_readPassed_24 : decode cX5_readPassed 24 = .ok (.getfield 12, 3) := by decide +kernel
theorem dX5_readPassed_27 : decode cX5_readPassed 27 = .ok (.aload_n 0, 1) := by decide +kernel
theorem dX5_readPassed_28 : decode cX5_readPassed 28 = .ok (.getfield 18, 3) := by decide +kernel
theorem dX5_readPassed_31 : decode cX5_readPassed 31 = .ok (.iconst 1, 1) := by decide +kernel
theorem dX5_readPassed_32 : decode cX5_readPassed 32 = .ok (.iadd, 1) := by decide +kernel
theorem dX5_readPassed_33 : decode cX5_readPassed 33 = .ok (.invokevirtual 63, 3) := by decide +kernel
theorem dX5_readPassed_36 : decode cX5_readPassed 36 = .ok (.invokestatic 102, 3) := by decide +kernel
theorem dX5_readPassed_39 : decode cX5_readPassed 39 = .ok (.putfield 106, 3) := by decide +kernel
theorem dX5_readPassed_42 : decode cX5_readPassed 42 = .ok (.aload_n 0, 1) := by decide +kernel
theorem dX5_readPassed_43 : decode cX5_readPassed 43 = .ok (.dup, 1) := by decide +kernel
theorem dX5_readPassed_44 : decode cX5_readPassed 44 = .ok (.getfield 18, 3) := by decide +kernel
theorem dX5_readPassed_47 : decode cX5_readPassed 47 = .ok (.iconst 2, 1) := by decide +kernel
theorem dX5_readPassed_48 : decode cX5_readPassed 48 = .ok (.iadd, 1) := by decide +kernel
theorem dX5_readPassed_49 : decode cX5_readPassed 49 = .ok (.putfield 18, 3) := by decide +kernel
theorem dX5_readPassed_52 : decode cX5_readPassed 52 = .ok (.aload_n 1, 1) := by decide +kernel
theorem dX5_readPassed_53 : decode cX5_readPassed 53 = .ok (.getfield 106, 3) := by decide +kernel
theorem dX5_readPassed_56 : decode cX5_readPassed 56 = .ok (.iconst (-1), 1) := by decide +kernel
theorem dX5_readPassed_57 : decode cX5_readPassed 57 = .ok (.if_icmp .eq 7, 3) := by decide +kernel
theorem dX5_readPassed_60 : decode cX5_readPassed 60 = .ok (.iconst 1, 1) := by decide +kernel
theorem dX5_readPassed_61 : decode cX5_readPassed 61 = .ok (.goto 4, 3) := by decide +kernel
theorem dX5_readPassed_64 : decode cX5_readPassed 64 = .ok (.iconst 0, 1) := by decide +kernel
theorem dX5_readPassed_65 : decode cX5_readPassed 65 = .ok (.ireturn, 1) := by decide +kernel
theorem dX5_readNumber_0 : decode cX5_readNumber 0 = .ok (.aload_n 0, 1) := by decide +kernel
theorem dX5_readNumber_1 : decode cX5_readNumber 1 = .ok (.getfield 18, 3) := by decide +kernel
theorem dX5_readNumber_4 : decode cX5_readNumber 4 = .ok (.istore_n 1, 1) := by decide +kernel
theorem dX5_readNumber_5 : decode cX5_readNumber 5 = .ok (.iconst 0, 1) := by decide +kernel
theorem dX5_readNumber_6 : decode cX5_readNumber 6 = .ok (.istore_n 2, 1) := by decide +kernel
theorem dX5_readNumber_7 : decode cX5_readNumber 7 = .ok (.aload_n 0, 1) := by decide +kernel
theorem dX5_readNumber_8 : decode cX5_readNumber 8 = .ok (.getfield 18, 3) := by decide +kernel
theorem dX5_readNumber_11 : decode cX5_readNumber 11 = .ok (.iload_n 1, 1) := by decide +kernel
theorem dX5_readNumber_12 : decode cX5_readNumber 12 = .ok (.iconst 3, 1) := by decide +kernel
theorem dX5_readNumber_13 : decode cX5_readNumber 13 = .ok (.iadd, 1) := by decide +kernel
theorem dX5_readNumber_14 : decode cX5_readNumber 14 = .ok (.if_icmp .ge 53, 3) := by decide +kernel
theorem dX5_readNumber_17 : decode cX5_readNumber 17 = .ok (.aload_n 0, 1) := by decide +kernel
theorem dX5_readNumber_18 : decode cX5_readNumber 18 = .ok (.getfield 12, 3) := by decide +kernel
theorem dX5_readNumber_21 : decode cX5_readNumber 21 = .ok (.aload_n 0, 1) := by decide +kernel
theorem dX5_readNumber_22 : decode cX5_readNumber 22 = .ok (.getfield 18, 3) := by decide +kernel
theorem dX5_readNumber_25 : decode cX5_readNumber 25 = .ok (.invokevirtual 63, 3) := by decide +kernel
theorem dX5_readNumber_28 : decode cX5_readNumber 28 = .ok (.invokestatic 109, 3) := by decide +kernel
theorem dX5_readNumber_31 : decode cX5_readNumber 31 = .ok (.ifCond .eq 36, 3) := by decide +kernel
theorem dX5_readNumber_34 : decode cX5_readNumber 34 = .ok (.bipush 10, 2) := by decide +kernel
theorem dX5_readNumber_36 : decode cX5_readNumber 36 = .ok (.iload_n 2, 1) := by decide +kernel
theorem dX5_readNumber_37 : decode cX5_readNumber 37 = .ok (.imul, 1) := by decide +kernel
theorem dX5_readNumber_38 : decode cX5_readNumber 38 = .ok (.aload_n 0, 1) := by decide +kernel
theorem dX5_readNumber_39 : decode cX5_readNumber 39 = .ok (.getfield 12, 3) := by decide +kernel
theorem dX5_readNumber_42 : decode cX5_readNumber 42 = .ok (.aload_n 0, 1) := by decide +kernel
theorem dX5_readNumber_43 : decode cX5_readNumber 43 = .ok (.getfield 18, 3) := by decide +kernel
theorem dX5_readNumber_46 : decode cX5_readNumber 46 = .ok (.invokevirtual 63, 3) := by decide +kernel
theorem dX5_readNumber_49 : decode cX5_readNumber 49 = .ok (.iadd, 1) := by decide +kernel
theorem dX5_readNumber_50 : decode cX5_readNumber 50 = .ok (.bipush 48, 2) := by decide +kernel
theorem dX5_readNumber_52 : decode cX5_readNumber 52 = .ok (.isub, 1) := by decide +kernel
theorem dX5_readNumber_53 : decode cX5_readNumber 53 = .ok (.istore_n 2, 1) := by decide +kernel
theorem dX5_readNumber_54 : decode cX5_readNumber 54 = .ok (.aload_n 0, 1) := by decide +kernel
theorem dX5_readNumber_55 : decode cX5_readNumber 55 = .ok (.dup, 1) := by decide +kernel
theorem dX5_readNumber_56 : decode cX5_readNumber 56 = .ok (.getfield 18, 3) := by decide +kernel
theorem dX5_readNumber_59 : decode cX5_readNumber 59 = .ok (.iconst 1, 1) := by decide +kernel
theorem dX5_readNumber_60 : decode cX5_readNumber 60 = .ok (.iadd, 1) := by decide +kernel
theorem dX5_readNumber_61 : decode cX5_readNumber 61 = .ok (.putfield 18, 3) := by decide +kernel
theorem dX5_readNumber_64 : decode cX5_readNumber 64 = .ok (.goto (-57), 3) := by decide +kernel
theorem dX5_readNumber_67 : decode cX5_readNumber 67 = .ok (.aload_n 0, 1) := by decide +kernel
theorem dX5_readNumber_68 : decode cX5_readNumber 68 = .ok (.getfield 12, 3) := by decide +kernel
theorem dX5_readNumber_71 : decode cX5_readNumber 71 = .ok (.iload_n 1, 1) := by decide +kernel
theorem dX5_readNumber_72 : decode cX5_readNumber 72 = .ok (.invokevirtual 63, 3) := by decide +kernel
theorem dX5_readNumber_75 : decode cX5_readNumber 75 = .ok (.bipush 48, 2) := by decide +kernel
theorem dX5_readNumber_77 : decode cX5_readNumber 77 = .ok (.if_icmp .ne 17, 3) := by decide +kernel
theorem dX5_readNumber_80 : decode cX5_readNumber 80 = .ok (.aload_n 0, 1) := by decide +kernel
theorem dX5_readNumber_81 : decode cX5_readNumber 81 = .ok (.getfield 18, 3) := by decide +kernel
theorem dX5_readNumber_84 : decode cX5_readNumber 84 = .ok (.iload_n 1, 1) := by decide +kernel
theorem dX5_readNumber_85 : decode cX5_readNumber 85 = .ok (.iconst 1, 1) := by decide +kernel
theorem dX5_readNumber_86 : decode cX5_readNumber 86 = .ok (.iadd, 1) := by decide +kernel
theorem dX5_readNumber_87 : decode cX5_readNumber 87 = .ok (.if_icmp .le 7, 3) := by decide +kernel
theorem dX5_readNumber_90 : decode cX5_readNumber 90 = .ok (.iconst 1, 1) := by decide +kernel
theorem dX5_readNumber_91 : decode cX5_readNumber 91 = .ok (.goto 4, 3) := by decide +kernel
theorem dX5_readNumber_94 : decode cX5_readNumber 94 = .ok (.iconst 0, 1) := by decide +kernel
theorem dX5_readNumber_95 : decode cX5_readNumber 95 = .ok (.istore_n 3, 1) := by decide +kernel
theorem dX5_readNumber_96 : decode cX5_readNumber 96 = .ok (.aload_n 0, 1) := by decide +kernel
theorem dX5_readNumber_97 : decode cX5_readNumber 97 = .ok (.getfield 18, 3) := by decide +kernel
theorem dX5_readNumber_100 : decode cX5_readNumber 100 = .ok (.iload_n 1, 1) := by decide +kernel
theorem dX5_readNumber_101 : decode cX5_readNumber 101 = .ok (.if_icmp .eq 7, 3) := by decide +kernel
theorem dX5_readNumber_104 : decode cX5_readNumber 104 = .ok (.iload_n 3, 1) := by decide +kernel
theorem dX5_readNumber_105 : decode cX5_readNumber 105 = .ok (.ifCond .eq 7, 3) := by decide +kernel
theorem dX5_readNumber_108 : decode cX5_readNumber 108 = .ok (.iconst (-1), 1) := by decide +kernel
theorem dX5_readNumber_109 : decode cX5_readNumber 109 = .ok (.goto 4, 3) := by decide +kernel
theorem dX5_readNumber_112 : decode cX5_readNumber 112 = .ok (.iload_n 2, 1) := by decide +kernel
theorem dX5_readNumber_113 : decode cX5_readNumber 113 = .ok (.ireturn, 1) := by decide +kernel
theorem dX5_readMoveNumber_0 : decode cX5_readMoveNumber 0 = .ok (.aload_n 1, 1) := by decide +kernel
theorem dX5_readMoveNumber_1 : decode cX5_readMoveNumber 1 = .ok (.aload_n 0, 1) := by decide +kernel
theorem dX5_readMoveNumber_2 : decode cX5_readMoveNumber 2 = .ok (.invokevirtual 44, 3) := by decide +kernel
theorem dX5_readMoveNumber_5 : decode cX5_readMoveNumber 5 = .ok (.putfield 112, 3) := by decide +kernel
theorem dX5_readMoveNumber_8 : decode cX5_readMoveNumber 8 = .ok (.aload_n 1, 1) := by decide +kernel
theorem dX5_readMoveNumber_9 : decode cX5_readMoveNumber 9 = .ok (.getfield 112, 3) := by decide +kernel
theorem dX5_readMoveNumber_12 : decode cX5_readMoveNumber 12 = .ok (.ifCond .le 7, 3) := by decide +kernel
theorem dX5_readMoveNumber_15 : decode cX5_readMoveNumber 15 = .ok (.iconst 1, 1) := by decide +kernel
theorem dX5_readMoveNumber_16 : decode cX5_readMoveNumber 16 = .ok (.goto 4, 3) := by decide +kernel
theorem dX5_readMoveNumber_19 : decode cX5_readMoveNumber 19 = .ok (.iconst 0, 1) := by decide +kernel
theorem dX5_readMoveNumber_20 : decode cX5_readMoveNumber 20 = .ok (.ireturn, 1) := by decide +kernel
theorem dX5_hasSoundMen_0 : decode cX5_hasSoundMen 0 = .ok (.iconst 0, 1) := by decide +kernel
theorem dX5_hasSoundMen_1 : decode cX5_hasSoundMen 1 = .ok (.istore_n 1, 1) := by decide +kernel
theorem dX5_hasSoundMen_2 : decode cX5_hasSoundMen 2 = .ok (.iconst 0, 1) := by decide +kernel
theorem dX5_hasSoundMen_3 : decode cX5_hasSoundMen 3 = .ok (.istore_n 2, 1) := by decide +kernel
theorem dX5_hasSoundMen_4 : decode cX5_hasSoundMen 4 = .ok (.iconst 0, 1) := by decide +kernel
theorem dX5_hasSoundMen_5 : decode cX5_hasSoundMen 5 = .ok (.istore_n 3, 1) := by decide +kernel
theorem dX5_hasSoundMen_6 : decode cX5_hasSoundMen 6 = .ok (.iload_n 3, 1) := by decide +kernel
theorem dX5_hasSoundMen_7 : decode cX5_hasSoundMen 7 = .ok (.bipush 64, 2) := by decide +kernel
theorem dX5_hasSoundMen_9 : decode cX5_hasSoundMen 9 = .ok (.if_icmp .ge 70, 3) := by decide +kernel
theorem dX5_hasSoundMen_12 : decode cX5_hasSoundMen 12 = .ok (.iload_n 1, 1) := by decide +kernel
theorem dX5_hasSoundMen_13 : decode cX5_hasSoundMen 13 = .ok (.aload_n 0, 1) := by decide +kernel
theorem dX5_hasSoundMen_14 : decode cX5_hasSoundMen 14 = .ok (.getfield 115, 3) := by decide +kernel
theorem dX5_hasSoundMen_17 : decode cX5_hasSoundMen 17 = .ok (.iload_n 3, 1) := by decide +kernel
theorem dX5_hasSoundMen_18 : decode cX5_hasSoundMen 18 = .ok (.iaload, 1) := by decide +kernel
theorem dX5_hasSoundMen_19 : decode cX5_hasSoundMen 19 = .ok (.bipush 6, 2) := by decide +kernel
theorem dX5_hasSoundMen_21 : decode cX5_hasSoundMen 21 = .ok (.if_icmp .ne 7, 3) := by decide +kernel
theorem dX5_hasSoundMen_24 : decode cX5_hasSoundMen 24 = .ok (.iconst 1, 1) := by decide +kernel
theorem dX5_hasSoundMen_25 : decode cX5_hasSoundMen 25 = .ok (.goto 4, 3) := by decide +kernel
theorem dX5_hasSoundMen_28 : decode cX5_hasSoundMen 28 = .ok (.iconst 0, 1) := by decide +kernel
theorem dX5_hasSoundMen_29 : decode cX5_hasSoundMen 29 = .ok (.iadd, 1) := by decide +kernel
theorem dX5_hasSoundMen_30 : decode cX5_hasSoundMen 30 = .ok (.istore_n 1, 1) := by decide +kernel
theorem dX5_hasSoundMen_31 : decode cX5_hasSoundMen 31 = .ok (.iload_n 2, 1) := by decide +kernel
theorem dX5_hasSoundMen_32 : decode cX5_hasSoundMen 32 = .ok (.aload_n 0, 1) := by decide +kernel
theorem dX5_hasSoundMen_33 : decode cX5_hasSoundMen 33 = .ok (.getfield 115, 3) := by decide +kernel
theorem dX5_hasSoundMen_36 : decode cX5_hasSoundMen 36 = .ok (.iload_n 3, 1) := by decide +kernel
theorem dX5_hasSoundMen_37 : decode cX5_hasSoundMen 37 = .ok (.iaload, 1) := by decide +kernel
theorem dX5_hasSoundMen_38 : decode cX5_hasSoundMen 38 = .ok (.bipush 14, 2) := by decide +kernel
theorem dX5_hasSoundMen_40 : decode cX5_hasSoundMen 40 = .ok (.if_icmp .ne 7, 3) := by decide +kernel
theorem dX5_hasSoundMen_43 : decode cX5_hasSoundMen 43 = .ok (.iconst 1, 1) := by decide +kernel
theorem dX5_hasSoundMen_44 : decode cX5_hasSoundMen 44 = .ok (.goto 4, 3) := by decide +kernel
theorem dX5_hasSoundMen_47 : decode cX5_hasSoundMen 47 = .ok (.iconst 0, 1) := by decide +kernel
theorem dX5_hasSoundMen_48 : decode cX5_hasSoundMen 48 = .ok (.iadd, 1) := by decide +kernel
theorem dX5_hasSoundMen_49 : decode cX5_hasSoundMen 49 = .ok (.istore_n 2, 1) := by decide +kernel
theorem dX5_hasSoundMen_50 : decode cX5_hasSoundMen 50 = .ok (.aload_n 0, 1) := by decide +kernel
theorem dX5_hasSoundMen_51 : decode cX5_hasSoundMen 51 = .ok (.iload_n 3, 1) := by decide +kernel
theorem dX5_hasSoundMen_52 : decode cX5_hasSoundMen 52 = .ok (.invokevirtual 119, 3) := by decide +kernel
theorem dX5_hasSoundMen_55 : decode cX5_hasSoundMen 55 = .ok (.iconst 1, 1) := by decide +kernel
theorem dX5_hasSoundMen_56 : decode cX5_hasSoundMen 56 = .ok (.if_icmp .ne 17, 3) := by decide +kernel
theorem dX5_hasSoundMen_59 : decode cX5_hasSoundMen 59 = .ok (.iload_n 3, 1) := by decide +kernel
theorem dX5_hasSoundMen_60 : decode cX5_hasSoundMen 60 = .ok (.bipush 8, 2) := by decide +kernel
theorem dX5_hasSoundMen_62 : decode cX5_hasSoundMen 62 = .ok (.if_icmp .lt 9, 3) := by decide +kernel
theorem dX5_hasSoundMen_65 : decode cX5_hasSoundMen 65 = .ok (.iload_n 3, 1) := by decide +kernel
theorem dX5_hasSoundMen_66 : decode cX5_hasSoundMen 66 = .ok (.bipush 56, 2) := by decide +kernel
theorem dX5_hasSoundMen_68 : decode cX5_hasSoundMen 68 = .ok (.if_icmp .lt 5, 3) := by decide +kernel
theorem dX5_hasSoundMen_71 : decode cX5_hasSoundMen 71 = .ok (.iconst 0, 1) := by decide +kernel
theorem dX5_hasSoundMen_72 : decode cX5_hasSoundMen 72 = .ok (.ireturn, 1) := by decide +kernel
theorem dX5_hasSoundMen_73 : decode cX5_hasSoundMen 73 = .ok (.iinc 3 1, 3) := by decide +kernel
theorem dX5_hasSoundMen_76 : decode cX5_hasSoundMen 76 = .ok (.goto (-70), 3) := by decide +kernel
theorem dX5_hasSoundMen_79 : decode cX5_hasSoundMen 79 = .ok (.iload_n 1, 1) := by decide +kernel
theorem dX5_hasSoundMen_80 : decode cX5_hasSoundMen 80 = .ok (.iconst 1, 1) := by decide +kernel
theorem dX5_hasSoundMen_81 : decode cX5_hasSoundMen 81 = .ok (.if_icmp .ne 33, 3) := by decide +kernel
theorem dX5_hasSoundMen_84 : decode cX5_hasSoundMen 84 = .ok (.iload_n 2, 1) := by decide +kernel
theorem dX5_hasSoundMen_85 : decode cX5_hasSoundMen 85 = .ok (.iconst 1, 1) := by decide +kernel
theorem dX5_hasSoundMen_86 : decode cX5_hasSoundMen 86 = .ok (.if_icmp .ne 28, 3) := by decide +kernel
theorem dX5_hasSoundMen_89 : decode cX5_hasSoundMen 89 = .ok (.aload_n 0, 1) := by decide +kernel
theorem dX5_hasSoundMen_90 : decode cX5_hasSoundMen 90 = .ok (.aload_n 0, 1) := by decide +kernel
theorem dX5_hasSoundMen_91 : decode cX5_hasSoundMen 91 = .ok (.iconst 1, 1) := by decide +kernel
theorem dX5_hasSoundMen_92 : decode cX5_hasSoundMen 92 = .ok (.aload_n 0, 1) := by decide +kernel
theorem dX5_hasSoundMen_93 : decode cX5_hasSoundMen 93 = .ok (.getfield 88, 3) := by decide +kernel
theorem dX5_hasSoundMen_96 : decode cX5_hasSoundMen 96 = .ok (.isub, 1) := by decide +kernel
theorem dX5_hasSoundMen_97 : decode cX5_hasSoundMen 97 = .ok (.invokevirtual 122, 3) := by decide +kernel
theorem dX5_hasSoundMen_100 : decode cX5_hasSoundMen 100 = .ok (.aload_n 0, 1) := by decide +kernel
theorem dX5_hasSoundMen_101 : decode cX5_hasSoundMen 101 = .ok (.getfield 88, 3) := by decide +kernel
theorem dX5_hasSoundMen_104 : decode cX5_hasSoundMen 104 = .ok (.invokevirtual 125, 3) := by decide +kernel
theorem dX5_hasSoundMen_107 : decode cX5_hasSoundMen 107 = .ok (.ifCond .ne 7, 3) := by decide +kernel
theorem dX5_hasSoundMen_110 : decode cX5_hasSoundMen 110 = .ok (.iconst 1, 1) := by decide +kernel
theorem dX5_hasSoundMen_111 : decode cX5_hasSoundMen 111 = .ok (.goto 4, 3) := by decide +kernel
theorem dX5_hasSoundMen_114 : decode cX5_hasSoundMen 114 = .ok (.iconst 0, 1) := by decide +kernel
theorem dX5_hasSoundMen_115 : decode cX5_hasSoundMen 115 = .ok (.ireturn, 1) := by decide +kernel
theorem dX5_hasSoundRights_0 : decode cX5_hasSoundRights 0 = .ok (.iconst 0, 1) := by decide +kernel
theorem dX5_hasSoundRights_1 : decode cX5_hasSoundRights 1 = .ok (.istore_n 1, 1) := by decide +kernel
theorem dX5_hasSoundRights_2 : decode cX5_hasSoundRights 2 = .ok (.iload_n 1, 1) := by decide +kernel
theorem dX5_hasSoundRights_3 : decode cX5_hasSoundRights 3 = .ok (.ldc 91, 2) := by decide +kernel
theorem dX5_hasSoundRights_5 : decode cX5_hasSoundRights 5 = .ok (.invokevirtual 93, 3) := by decide +kernel
theorem dX5_hasSoundRights_8 : decode cX5_hasSoundRights 8 = .ok (.if_icmp .ge 90, 3) := by decide +kernel
theorem dX5_hasSoundRights_11 : decode cX5_hasSoundRights 11 = .ok (.iload_n 1, 1) := by decide +kernel
theorem dX5_hasSoundRights_12 : decode cX5_hasSoundRights 12 = .ok (.iconst 2, 1) := by decide +kernel
theorem dX5_hasSoundRights_13 : decode cX5_hasSoundRights 13 = .ok (.if_icmp .ge 7, 3) := by decide +kernel
theorem dX5_hasSoundRights_16 : decode cX5_hasSoundRights 16 = .ok (.iconst 0, 1) := by decide +kernel
theorem dX5_hasSoundRights_17 : decode cX5_hasSoundRights 17 = .ok (.goto 5, 3) := by decide +kernel
theorem dX5_hasSoundRights_20 : decode cX5_hasSoundRights 20 = .ok (.bipush 8, 2) := by decide +kernel
theorem dX5_hasSoundRights_22 : decode cX5_hasSoundRights 22 = .ok (.istore_n 2, 1) := by decide +kernel
theorem dX5_hasSoundRights_23 : decode cX5_hasSoundRights 23 = .ok (.iload_n 1, 1) := by decide +kernel
theorem dX5_hasSoundRights_24 : decode cX5_hasSoundRights 24 = .ok (.iconst 2, 1) := by decide +kernel
theorem dX5_hasSoundRights_25 : decode cX5_hasSoundRights 25 = .ok (.if_icmp .ge 7, 3) := by decide +kernel
theorem dX5_hasSoundRights_28 : decode cX5_hasSoundRights 28 = .ok (.iconst 4, 1) := by decide +kernel
theorem dX5_hasSoundRights_29 : decode cX5_hasSoundRights 29 = .ok (.goto 5, 3) := by decide +kernel
theorem dX5_hasSoundRights_32 : decode cX5_hasSoundRights 32 = .ok (.bipush 60, 2) := by decide +kernel
theorem dX5_hasSoundRights_34 : decode cX5_hasSoundRights 34 = .ok (.istore_n 3, 1) := by decide +kernel
theorem dX5_hasSoundRights_35 : decode cX5_hasSoundRights 35 = .ok (.iload_n 1, 1) := by decide +kernel
theorem dX5_hasSoundRights_36 : decode cX5_hasSoundRights 36 = .ok (.iconst 2, 1) := by decide +kernel
theorem dX5_hasSoundRights_37 : decode cX5_hasSoundRights 37 = .ok (.irem, 1) := by decide +kernel
theorem dX5_hasSoundRights_38 : decode cX5_hasSoundRights 38 = .ok (.ifCond .ne 9, 3) := by decide +kernel
theorem dX5_hasSoundRights_41 : decode cX5_hasSoundRights 41 = .ok (.iload_n 3, 1) := by decide +kernel
theorem dX5_hasSoundRights_42 : decode cX5_hasSoundRights 42 = .ok (.iconst 3, 1) := by decide +kernel
theorem dX5_hasSoundRights_43 : decode cX5_hasSoundRights 43 = .ok (.iadd, 1) := by decide +kernel
theorem dX5_hasSoundRights_44 : decode cX5_hasSoundRights 44 = .ok (.goto 6, 3) := by decide +kernel
theorem dX5_hasSoundRights_47 : decode cX5_hasSoundRights 47 = .ok (.iload_n 3, 1) := by decide +kernel
theorem dX5_hasSoundRights_48 : decode cX5_hasSoundRights 48 = .ok (.iconst 4, 1) := by decide +kernel
theorem dX5_hasSoundRights_49 : decode cX5_hasSoundRights 49 = .ok (.isub, 1) := by decide +kernel
theorem dX5_hasSoundRights_50 : decode cX5_hasSoundRights 50 = .ok (.istore 4, 2) := by decide +kernel
theorem dX5_hasSoundRights_52 : decode cX5_hasSoundRights 52 = .ok (.aload_n 0, 1) := by decide +kernel
theorem dX5_hasSoundRights_53 : decode cX5_hasSoundRights 53 = .ok (.getfield 99, 3) := by decide +kernel
theorem dX5_hasSoundRights_56 : decode cX5_hasSoundRights 56 = .ok (.iload_n 1, 1) := by decide +kernel
theorem dX5_hasSoundRights_57 : decode cX5_hasSoundRights 57 = .ok (.ishr, 1) := by decide +kernel
theorem dX5_hasSoundRights_58 : decode cX5_hasSoundRights 58 = .ok (.iconst 1, 1) := by decide +kernel
theorem dX5_hasSoundRights_59 : decode cX5_hasSoundRights 59 = .ok (.iand, 1) := by decide +kernel
theorem dX5_hasSoundRights_60 : decode cX5_hasSoundRights 60 = .ok (.iconst 1, 1) := by decide +kernel
theorem dX5_hasSoundRights_61 : decode cX5_hasSoundRights 61 = .ok (.if_icmp .ne 31, 3) := by decide +kernel
theorem dX5_hasSoundRights_64 : decode cX5_hasSoundRights 64 = .ok (.aload_n 0, 1) := by decide +kernel
theorem dX5_hasSoundRights_65 : decode cX5_hasSoundRights 65 = .ok (.getfield 115, 3) := by decide +kernel
theorem dX5_hasSoundRights_68 : decode cX5_hasSoundRights 68 = .ok (.iload_n 3, 1) := by decide +kernel
theorem dX5_hasSoundRights_69 : decode cX5_hasSoundRights 69 = .ok (.iaload, 1) := by decide +kernel
theorem dX5_hasSoundRights_70 : decode cX5_hasSoundRights 70 = .ok (.bipush 6, 2) := by decide +kernel
theorem dX5_hasSoundRights_72 : decode cX5_hasSoundRights 72 = .ok (.iload_n 2, 1) := by decide +kernel
theorem dX5_hasSoundRights_73 : decode cX5_hasSoundRights 73 = .ok (.iadd, 1) := by decide +kernel
theorem dX5_hasSoundRights_74 : decode cX5_hasSoundRights 74 = .ok (.if_icmp .ne 16, 3) := by decide +kernel
theorem dX5_hasSoundRights_77 : decode cX5_hasSoundRights 77 = .ok (.aload_n 0, 1) := by decide +kernel
theorem dX5_hasSoundRights_78 : decode cX5_hasSoundRights 78 = .ok (.getfield 115, 3) := by decide +kernel
theorem dX5_hasSoundRights_81 : decode cX5_hasSoundRights 81 = .ok (.iload 4, 2) := by decide +kernel
theorem dX5_hasSoundRights_83 : decode cX5_hasSoundRights 83 = .ok (.iaload, 1) := by decide +kernel
theorem dX5_hasSoundRights_84 : decode cX5_hasSoundRights 84 = .ok (.iconst 4, 1) := by decide +kernel
theorem dX5_hasSoundRights_85 : decode cX5_hasSoundRights 85 = .ok (.iload_n 2, 1) := by decide +kernel
theorem dX5_hasSoundRights_86 : decode cX5_hasSoundRights 86 = .ok (.iadd, 1) := by decide +kernel
theorem dX5_hasSoundRights_87 : decode cX5_hasSoundRights 87 = .ok (.if_icmp .eq 5, 3) := by decide +kernel
theorem dX5_hasSoundRights_90 : decode cX5_hasSoundRights 90 = .ok (.iconst 0, 1) := by decide +kernel
theorem dX5_hasSoundRights_91 : decode cX5_hasSoundRights 91 = .ok (.ireturn, 1) := by decide +kernel
theorem dX5_hasSoundRights_92 : decode cX5_hasSoundRights 92 = .ok (.iinc 1 1, 3) := by decide +kernel
theorem dX5_hasSoundRights_95 : decode cX5_hasSoundRights 95 = .ok (.goto (-93), 3) := by decide +kernel
theorem dX5_hasSoundRights_98 : decode cX5_hasSoundRights 98 = .ok (.iconst 1, 1) := by decide +kernel
theorem dX5_hasSoundRights_99 : decode cX5_hasSoundRights 99 = .ok (.ireturn, 1) := by decide +kernel
theorem dX5_hasSoundPassed_0 : decode cX5_hasSoundPassed 0 = .ok (.aload_n 0, 1) := by decide +kernel
theorem dX5_hasSoundPassed_1 : decode cX5_hasSoundPassed 1 = .ok (.getfield 106, 3) := by decide +kernel
theorem dX5_hasSoundPassed_4 : decode cX5_hasSoundPassed 4 = .ok (.istore_n 1, 1) := by decide +kernel
theorem dX5_hasSoundPassed_5 : decode cX5_hasSoundPassed 5 = .ok (.iload_n 1, 1) := by decide +kernel
theorem dX5_hasSoundPassed_6 : decode cX5_hasSoundPassed 6 = .ok (.iconst (-1), 1) := by decide +kernel
theorem dX5_hasSoundPassed_7 : decode cX5_hasSoundPassed 7 = .ok (.if_icmp .ne 5, 3) := by decide +kernel
theorem dX5_hasSoundPassed_10 : decode cX5_hasSoundPassed 10 = .ok (.iconst 1, 1) := by decide +kernel
theorem dX5_hasSoundPassed_11 : decode cX5_hasSoundPassed 11 = .ok (.ireturn, 1) := by decide +kernel
theorem dX5_hasSoundPassed_12 : decode cX5_hasSoundPassed 12 = .ok (.aload_n 0, 1) := by decide +kernel
theorem dX5_hasSoundPassed_13 : decode cX5_hasSoundPassed 13 = .ok (.getfield 88, 3) := by decide +kernel
theorem dX5_hasSoundPassed_16 : decode cX5_hasSoundPassed 16 = .ok (.ifCond .ne 7, 3) := by decide +kernel
theorem dX5_hasSoundPassed_19 : decode cX5_hasSoundPassed 19 = .ok (.iconst 1, 1) := by decide +kernel
theorem dX5_hasSoundPassed_20 : decode cX5_hasSoundPassed 20 = .ok (.goto 4, 3) := by decide +kernel
theorem dX5_hasSoundPassed_23 : decode cX5_hasSoundPassed 23 = .ok (.iconst 0, 1) := by decide +kernel
theorem dX5_hasSoundPassed_24 : decode cX5_hasSoundPassed 24 = .ok (.istore_n 2, 1) := by decide +kernel
theorem dX5_hasSoundPassed_25 : decode cX5_hasSoundPassed 25 = .ok (.iload_n 1, 1) := by decide +kernel
theorem dX5_hasSoundPassed_26 : decode cX5_hasSoundPassed 26 = .ok (.iconst 3, 1) := by decide +kernel
theorem dX5_hasSoundPassed_27 : decode cX5_hasSoundPassed 27 = .ok (.ishr, 1) := by decide +kernel
theorem dX5_hasSoundPassed_28 : decode cX5_hasSoundPassed 28 = .ok (.iload_n 2, 1) := by decide +kernel
theorem dX5_hasSoundPassed_29 : decode cX5_hasSoundPassed 29 = .ok (.ifCond .eq 7, 3) := by decide +kernel
theorem dX5_hasSoundPassed_32 : decode cX5_hasSoundPassed 32 = .ok (.iconst 5, 1) := by decide +kernel
theorem dX5_hasSoundPassed_33 : decode cX5_hasSoundPassed 33 = .ok (.goto 4, 3) := by decide +kernel
theorem dX5_hasSoundPassed_36 : decode cX5_hasSoundPassed 36 = .ok (.iconst 2, 1) := by decide +kernel
theorem dX5_hasSoundPassed_37 : decode cX5_hasSoundPassed 37 = .ok (.if_icmp .ne 12, 3) := by decide +kernel
theorem dX5_hasSoundPassed_40 : decode cX5_hasSoundPassed 40 = .ok (.aload_n 0, 1) := by decide +kernel
theorem dX5_hasSoundPassed_41 : decode cX5_hasSoundPassed 41 = .ok (.getfield 115, 3) := by decide +kernel
theorem dX5_hasSoundPassed_44 : decode cX5_hasSoundPassed 44 = .ok (.iload_n 1, 1) := by decide +kernel
theorem dX5_hasSoundPassed_45 : decode cX5_hasSoundPassed 45 = .ok (.iaload, 1) := by decide +kernel
theorem dX5_hasSoundPassed_46 : decode cX5_hasSoundPassed 46 = .ok (.ifCond .eq 5, 3) := by decide +kernel
theorem dX5_hasSoundPassed_49 : decode cX5_hasSoundPassed 49 = .ok (.iconst 0, 1) := by decide +kernel
theorem dX5_hasSoundPassed_50 : decode cX5_hasSoundPassed 50 = .ok (.ireturn, 1) := by decide +kernel
theorem dX5_hasSoundPassed_51 : decode cX5_hasSoundPassed 51 = .ok (.iload_n 2, 1) := by decide +kernel
theorem dX5_hasSoundPassed_52 : decode cX5_hasSoundPassed 52 = .ok (.ifCond .eq 8, 3) := by decide +kernel
theorem dX5_hasSoundPassed_55 : decode cX5_hasSoundPassed 55 = .ok (.bipush (-8), 2) := by decide +kernel
theorem dX5_hasSoundPassed_57 : decode cX5_hasSoundPassed 57 = .ok (.goto 5, 3) := by decide +kernel
theorem dX5_hasSoundPassed_60 : decode cX5_hasSoundPassed 60 = .ok (.bipush 8, 2) := by decide +kernel
theorem dX5_hasSoundPassed_62 : decode cX5_hasSoundPassed 62 = .ok (.istore_n 3, 1) := by decide +kernel
theorem dX5_hasSoundPassed_63 : decode cX5_hasSoundPassed 63 = .ok (.aload_n 0, 1) := by decide +kernel
theorem dX5_hasSoundPassed_64 : decode cX5_hasSoundPassed 64 = .ok (.getfield 115, 3) := by decide +kernel
theorem dX5_hasSoundPassed_67 : decode cX5_hasSoundPassed 67 = .ok (.iload_n 1, 1) := by decide +kernel
theorem dX5_hasSoundPassed_68 : decode cX5_hasSoundPassed 68 = .ok (.iload_n 3, 1) := by decide +kernel
theorem dX5_hasSoundPassed_69 : decode cX5_hasSoundPassed 69 = .ok (.iadd, 1) := by decide +kernel
theorem dX5_hasSoundPassed_70 : decode cX5_hasSoundPassed 70 = .ok (.iaload, 1) := by decide +kernel
theorem dX5_hasSoundPassed_71 : decode cX5_hasSoundPassed 71 = .ok (.iconst 1, 1) := by decide +kernel
theorem dX5_hasSoundPassed_72 : decode cX5_hasSoundPassed 72 = .ok (.bipush 8, 2) := by decide +kernel
theorem dX5_hasSoundPassed_74 : decode cX5_hasSoundPassed 74 = .ok (.iconst 1, 1) := by decide +kernel
theorem dX5_hasSoundPassed_75 : decode cX5_hasSoundPassed 75 = .ok (.aload_n 0, 1) := by decide +kernel
theorem dX5_hasSoundPassed_76 : decode cX5_hasSoundPassed 76 = .ok (.getfield 88, 3) := by decide +kernel
theorem dX5_hasSoundPassed_79 : decode cX5_hasSoundPassed 79 = .ok (.isub, 1) := by decide +kernel
theorem dX5_hasSoundPassed_80 : decode cX5_hasSoundPassed 80 = .ok (.imul, 1) := by decide +kernel
theorem dX5_hasSoundPassed_81 : decode cX5_hasSoundPassed 81 = .ok (.iadd, 1) := by decide +kernel
theorem dX5_hasSoundPassed_82 : decode cX5_hasSoundPassed 82 = .ok (.if_icmp .ne 30, 3) := by decide +kernel
theorem dX5_hasSoundPassed_85 : decode cX5_hasSoundPassed 85 = .ok (.aload_n 0, 1) := by decide +kernel
theorem dX5_hasSoundPassed_86 : decode cX5_hasSoundPassed 86 = .ok (.getfield 115, 3) := by decide +kernel
theorem dX5_hasSoundPassed_89 : decode cX5_hasSoundPassed 89 = .ok (.iload_n 1, 1) := by decide +kernel
theorem dX5_hasSoundPassed_90 : decode cX5_hasSoundPassed 90 = .ok (.iload_n 3, 1) := by decide +kernel
theorem dX5_hasSoundPassed_91 : decode cX5_hasSoundPassed 91 = .ok (.isub, 1) := by decide +kernel
theorem dX5_hasSoundPassed_92 : decode cX5_hasSoundPassed 92 = .ok (.iaload, 1) := by decide +kernel
theorem dX5_hasSoundPassed_93 : decode cX5_hasSoundPassed 93 = .ok (.ifCond .ne 19, 3) := by decide +kernel
theorem dX5_hasSoundPassed_96 : decode cX5_hasSoundPassed 96 = .ok (.aload_n 0, 1) := by decide +kernel
theorem dX5_hasSoundPassed_97 : decode cX5_hasSoundPassed 97 = .ok (.iload_n 1, 1) := by decide +kernel
theorem dX5_hasSoundPassed_98 : decode cX5_hasSoundPassed 98 = .ok (.aload_n 0, 1) := by decide +kernel
theorem dX5_hasSoundPassed_99 : decode cX5_hasSoundPassed 99 = .ok (.getfield 88, 3) := by decide +kernel
theorem dX5_hasSoundPassed_102 : decode cX5_hasSoundPassed 102 = .ok (.invokevirtual 129, 3) := by decide +kernel
theorem dX5_hasSoundPassed_105 : decode cX5_hasSoundPassed 105 = .ok (.ifCond .eq 7, 3) := by decide +kernel
theorem dX5_hasSoundPassed_108 : decode cX5_hasSoundPassed 108 = .ok (.iconst 1, 1) := by decide +kernel
theorem dX5_hasSoundPassed_109 : decode cX5_hasSoundPassed 109 = .ok (.goto 4, 3) := by decide +kernel
theorem dX5_hasSoundPassed_112 : decode cX5_hasSoundPassed 112 = .ok (.iconst 0, 1) := by decide +kernel
theorem dX5_hasSoundPassed_113 : decode cX5_hasSoundPassed 113 = .ok (.ireturn, 1) := by decide +kernel
end
section
theorem dX6_init_0 : decode cX6_init 0 = .ok (.aload_n 0, 1) := by decide +kernel
theorem dX6_init_1 : decode cX6_init 1 = .ok (.invokespecial 1, 3) := by decide +kernel
theorem dX6_init_4 : decode cX6_init 4 = .ok (.aload_n 0, 1) := by decide +kernel
theorem dX6_init_5 : decode cX6_init 5 = .ok (.getstatic 7, 3) := by decide +kernel
theorem dX6_init_8 : decode cX6_init 8 = .ok (.putfield 13, 3) := by decide +kernel
theorem dX6_init_11 : decode cX6_init 11 = .ok (.aload_n 0, 1) := by decide +kernel
theorem dX6_init_12 : decode cX6_init 12 = .ok (.iconst 0, 1) := by decide +kernel
theorem dX6_init_13 : decode cX6_init 13 = .ok (.putfield 16, 3) := by decide +kernel
theorem dX6_init_16 : decode cX6_init 16 = .ok (.return_, 1) := by decide +kernel
theorem dX6_size_0 : decode cX6_size 0 = .ok (.aload_n 0, 1) := by decide +kernel
theorem dX6_size_1 : decode cX6_size 1 = .ok (.getfield 16, 3) := by decide +kernel
theorem dX6_size_4 : decode cX6_size 4 = .ok (.ireturn, 1) := by decide +kernel
theorem dX6_at_0 : decode cX6_at 0 = .ok (.iload_n 1, 1) := by decide +kernel
theorem dX6_at_1 : decode cX6_at 1 = .ok (.ifCond .lt 20, 3) := by decide +kernel
theorem dX6_at_4 : decode cX6_at 4 = .ok (.iload_n 1, 1) := by decide +kernel
theorem dX6_at_5 : decode cX6_at 5 = .ok (.aload_n 0, 1) := by decide +kernel
theorem dX6_at_6 : decode cX6_at 6 = .ok (.getfield 16, 3) := by decide +kernel
theorem dX6_at_9 : decode cX6_at 9 = .ok (.if_icmp .ge 12, 3) := by decide +kernel
theorem dX6_at_12 : decode cX6_at 12 = .ok (.aload_n 0, 1) := by decide +kernel
theorem dX6_at_13 : decode cX6_at 13 = .ok (.getfield 13, 3) := by decide +kernel
theorem dX6_at_16 : decode cX6_at 16 = .ok (.iload_n 1, 1) := by decide +kernel
theorem dX6_at_17 : decode cX6_at 17 = .ok (.caload, 1) := by decide +kernel
theorem dX6_at_18 : decode cX6_at 18 = .ok (.goto 4, 3) := by decide +kernel
theorem dX6_at_21 : decode cX6_at 21 = .ok (.iconst 0, 1) := by decide +kernel
theorem dX6_at_22 : decode cX6_at 22 = .ok (.ireturn, 1) := by decide +kernel
theorem dX6_keep_0 : decode cX6_keep 0 = .ok (.iload_n 1, 1) := by decide +kernel
theorem dX6_keep_1 : decode cX6_keep 1 = .ok (.ifCond .lt 16, 3) := by decide +kernel
theorem dX6_keep_4 : decode cX6_keep 4 = .ok (.iload_n 1, 1) := by decide +kernel
theorem dX6_keep_5 : decode cX6_keep 5 = .ok (.aload_n 0, 1) := by decide +kernel
theorem dX6_keep_6 : decode cX6_keep 6 = .ok (.getfield 16, 3) := by decide +kernel
theorem dX6_keep_9 : decode cX6_keep 9 = .ok (.if_icmp .ge 8, 3) := by decide +kernel
theorem dX6_keep_12 : decode cX6_keep 12 = .ok (.aload_n 0, 1) := by decide +kernel
theorem dX6_keep_13 : decode cX6_keep 13 = .ok (.iload_n 1, 1) := by decide +kernel
theorem dX6_keep_14 : decode cX6_keep 14 = .ok (.putfield 16, 3) := by decide +kernel
theorem dX6_keep_17 : decode cX6_keep 17 = .ok (.return_, 1) := by decide +kernel
theorem dX6_put_0 : decode cX6_put 0 = .ok (.aload_n 0, 1) := by decide +kernel
theorem dX6_put_1 : decode cX6_put 1 = .ok (.getfield 16, 3) := by decide +kernel
theorem dX6_put_4 : decode cX6_put 4 = .ok (.aload_n 0, 1) := by decide +kernel
theorem dX6_put_5 : decode cX6_put 5 = .ok (.getfield 13, 3) := by decide +kernel
theorem dX6_put_8 : decode cX6_put 8 = .ok (.arraylength, 1) := by decide +kernel
theorem dX6_put_9 : decode cX6_put 9 = .ok (.if_icmp .lt 34, 3) := by decide +kernel
theorem dX6_put_12 : decode cX6_put 12 = .ok (.iconst 2, 1) := by decide +kernel
theorem dX6_put_13 : decode cX6_put 13 = .ok (.aload_n 0, 1) := by decide +kernel
theorem dX6_put_14 : decode cX6_put 14 = .ok (.getfield 16, 3) := by decide +kernel
theorem dX6_put_17 : decode cX6_put 17 = .ok (.imul, 1) := by decide +kernel
theorem dX6_put_18 : decode cX6_put 18 = .ok (.bipush 8, 2) := by decide +kernel
theorem dX6_put_20 : decode cX6_put 20 = .ok (.iadd, 1) := by decide +kernel
theorem dX6_put_21 : decode cX6_put 21 = .ok (.newarray .char, 2) := by decide +kernel
theorem dX6_put_23 : decode cX6_put 23 = .ok (.astore_n 2, 1) := by decide +kernel
theorem dX6_put_24 : decode cX6_put 24 = .ok (.aload_n 0, 1) := by decide +kernel
theorem dX6_put_25 : decode cX6_put 25 = .ok (.getfield 13, 3) := by decide +kernel
theorem dX6_put_28 : decode cX6_put 28 = .ok (.iconst 0, 1) := by decide +kernel
theorem dX6_put_29 : decode cX6_put 29 = .ok (.aload_n 2, 1) := by decide +kernel
theorem dX6_put_30 : decode cX6_put 30 = .ok (.iconst 0, 1) := by decide +kernel
theorem dX6_put_31 : decode cX6_put 31 = .ok (.aload_n 0, 1) := by decide +kernel
theorem dX6_put_32 : decode cX6_put 32 = .ok (.getfield 16, 3) := by decide +kernel
theorem dX6_put_35 : decode cX6_put 35 = .ok (.invokestatic 20, 3) := by decide +kernel
theorem dX6_put_38 : decode cX6_put 38 = .ok (.aload_n 0, 1) := by decide +kernel
theorem dX6_put_39 : decode cX6_put 39 = .ok (.aload_n 2, 1) := by decide +kernel
theorem dX6_put_40 : decode cX6_put 40 = .ok (.putfield 13, 3) := by decide +kernel
theorem dX6_put_43 : decode cX6_put 43 = .ok (.aload_n 0, 1) := by decide +kernel
theorem dX6_put_44 : decode cX6_put 44 = .ok (.getfield 13, 3) := by decide +kernel
theorem dX6_put_47 : decode cX6_put 47 = .ok (.aload_n 0, 1) := by decide +kernel
theorem dX6_put_48 : decode cX6_put 48 = .ok (.getfield 16, 3) := by decide +kernel
theorem dX6_put_51 : decode cX6_put 51 = .ok (.iload_n 1, 1) := by decide +kernel
theorem dX6_put_52 : decode cX6_put 52 = .ok (.castore, 1) := by decide +kernel
theorem dX6_put_53 : decode cX6_put 53 = .ok (.aload_n 0, 1) := by decide +kernel
theorem dX6_put_54 : decode cX6_put 54 = .ok (.dup, 1) := by decide +kernel
theorem dX6_put_55 : decode cX6_put 55 = .ok (.getfield 16, 3) := by decide +kernel
theorem dX6_put_58 : decode cX6_put 58 = .ok (.iconst 1, 1) := by decide +kernel
theorem dX6_put_59 : decode cX6_put 59 = .ok (.iadd, 1) := by decide +kernel
theorem dX6_put_60 : decode cX6_put 60 = .ok (.putfield 16, 3) := by decide +kernel
theorem dX6_put_63 : decode cX6_put 63 = .ok (.return_, 1) := by decide +kernel
theorem dX6_putText_0 : decode cX6_putText 0 = .ok (.iconst 0, 1) := by decide +kernel
theorem dX6_putText_1 : decode cX6_putText 1 = .ok (.istore_n 2, 1) := by decide +kernel
theorem dX6_putText_2 : decode cX6_putText 2 = .ok (.iload_n 2, 1) := by decide +kernel
theorem dX6_putText_3 : decode cX6_putText 3 = .ok (.aload_n 1, 1) := by decide +kernel
theorem dX6_putText_4 : decode cX6_putText 4 = .ok (.invokevirtual 26, 3) := by decide +kernel
theorem dX6_putText_7 : decode cX6_putText 7 = .ok (.if_icmp .ge 18, 3) := by decide +kernel
theorem dX6_putText_10 : decode cX6_putText 10 = .ok (.aload_n 0, 1) := by decide +kernel
theorem dX6_putText_11 : decode cX6_putText 11 = .ok (.aload_n 1, 1) := by decide +kernel
theorem dX6_putText_12 : decode cX6_putText 12 = .ok (.iload_n 2, 1) := by decide +kernel
theorem dX6_putText_13 : decode cX6_putText 13 = .ok (.invokevirtual 31, 3) := by decide +kernel
theorem dX6_putText_16 : decode cX6_putText 16 = .ok (.invokevirtual 35, 3) := by decide +kernel
theorem dX6_putText_19 : decode cX6_putText 19 = .ok (.iinc 2 1, 3) := by decide +kernel
theorem dX6_putText_22 : decode cX6_putText 22 = .ok (.goto (-20), 3) := by decide +kernel
theorem dX6_putText_25 : decode cX6_putText 25 = .ok (.return_, 1) := by decide +kernel
theorem dX6_putNumber_0 : decode cX6_putNumber 0 = .ok (.iconst 1, 1) := by decide +kernel
theorem dX6_putNumber_1 : decode cX6_putNumber 1 = .ok (.istore_n 2, 1) := by decide +kernel
theorem dX6_putNumber_2 : decode cX6_putNumber 2 = .ok (.iconst 0, 1) := by decide +kernel
theorem dX6_putNumber_3 : decode cX6_putNumber 3 = .ok (.istore_n 3, 1) := by decide +kernel
theorem dX6_putNumber_4 : decode cX6_putNumber 4 = .ok (.iload_n 3, 1) := by decide +kernel
theorem dX6_putNumber_5 : decode cX6_putNumber 5 = .ok (.bipush 9, 2) := by decide +kernel
theorem dX6_putNumber_7 : decode cX6_putNumber 7 = .ok (.if_icmp .ge 22, 3) := by decide +kernel
theorem dX6_putNumber_10 : decode cX6_putNumber 10 = .ok (.iload_n 1, 1) := by decide +kernel
theorem dX6_putNumber_11 : decode cX6_putNumber 11 = .ok (.iload_n 2, 1) := by decide +kernel
theorem dX6_putNumber_12 : decode cX6_putNumber 12 = .ok (.idiv, 1) := by decide +kernel
theorem dX6_putNumber_13 : decode cX6_putNumber 13 = .ok (.bipush 10, 2) := by decide +kernel
theorem dX6_putNumber_15 : decode cX6_putNumber 15 = .ok (.if_icmp .lt 14, 3) := by decide +kernel
theorem dX6_putNumber_18 : decode cX6_putNumber 18 = .ok (.iload_n 2, 1) := by decide +kernel
theorem dX6_putNumber_19 : decode cX6_putNumber 19 = .ok (.bipush 10, 2) := by decide +kernel
theorem dX6_putNumber_21 : decode cX6_putNumber 21 = .ok (.imul, 1) := by decide +kernel
theorem dX6_putNumber_22 : decode cX6_putNumber 22 = .ok (.istore_n 2, 1) := by decide +kernel
theorem dX6_putNumber_23 : decode cX6_putNumber 23 = .ok (.iinc 3 1, 3) := by decide +kernel
theorem dX6_putNumber_26 : decode cX6_putNumber 26 = .ok (.goto (-22), 3) := by decide +kernel
theorem dX6_putNumber_29 : decode cX6_putNumber 29 = .ok (.iload_n 2, 1) := by decide +kernel
theorem dX6_putNumber_30 : decode cX6_putNumber 30 = .ok (.ifCond .le 25, 3) := by decide +kernel
theorem dX6_putNumber_33 : decode cX6_putNumber 33 = .ok (.aload_n 0, 1) := by decide +kernel
theorem dX6_putNumber_34 : decode cX6_putNumber 34 = .ok (.bipush 48, 2) := by decide +kernel
theorem dX6_putNumber_36 : decode cX6_putNumber 36 = .ok (.iload_n 1, 1) := by decide +kernel
theorem dX6_putNumber_37 : decode cX6_putNumber 37 = .ok (.iload_n 2, 1) := by decide +kernel
theorem dX6_putNumber_38 : decode cX6_putNumber 38 = .ok (.idiv, 1) := by decide +kernel
theorem dX6_putNumber_39 : decode cX6_putNumber 39 = .ok (.bipush 10, 2) := by decide +kernel
theorem dX6_putNumber_41 : decode cX6_putNumber 41 = .ok (.irem, 1) := by decide +kernel
theorem dX6_putNumber_42 : decode cX6_putNumber 42 = .ok (.iadd, 1) := by decide +kernel
theorem dX6_putNumber_43 : decode cX6_putNumber 43 = .ok (.i2c, 1) := by decide +kernel
theorem dX6_putNumber_44 : decode cX6_putNumber 44 = .ok (.invokevirtual 35, 3) := by decide +kernel
theorem dX6_putNumber_47 : decode cX6_putNumber 47 = .ok (.iload_n 2, 1) := by decide +kernel
theorem dX6_putNumber_48 : decode cX6_putNumber 48 = .ok (.bipush 10, 2) := by decide +kernel
theorem dX6_putNumber_50 : decode cX6_putNumber 50 = .ok (.idiv, 1) := by decide +kernel
theorem dX6_putNumber_51 : decode cX6_putNumber 51 = .ok (.istore_n 2, 1) := by decide +kernel
theorem dX6_putNumber_52 : decode cX6_putNumber 52 = .ok (.goto (-23), 3) := by decide +kernel
theorem dX6_putNumber_55 : decode cX6_putNumber 55 = .ok (.return_, 1) := by decide +kernel
theorem dX6_copyFrom_0 : decode cX6_copyFrom 0 = .ok (.aload_n 0, 1) := by decide +kernel
theorem dX6_copyFrom_1 : decode cX6_copyFrom 1 = .ok (.iconst 0, 1) := by decide +kernel
theorem dX6_copyFrom_2 : decode cX6_copyFrom 2 = .ok (.putfield 16, 3) := by decide +kernel
theorem dX6_copyFrom_5 : decode cX6_copyFrom 5 = .ok (.aload_n 0, 1) := by decide +kernel
theorem dX6_copyFrom_6 : decode cX6_copyFrom 6 = .ok (.aload_n 1, 1) := by decide +kernel
theorem dX6_copyFrom_7 : decode cX6_copyFrom 7 = .ok (.invokevirtual 39, 3) := by decide +kernel
theorem dX6_copyFrom_10 : decode cX6_copyFrom 10 = .ok (.return_, 1) := by decide +kernel
theorem dX6_putAll_0 : decode cX6_putAll 0 = .ok (.iconst 0, 1) := by decide +kernel
theorem dX6_putAll_1 : decode cX6_putAll 1 = .ok (.istore_n 2, 1) := by decide +kernel
theorem dX6_putAll_2 : decode cX6_putAll 2 = .ok (.iload_n 2, 1) := by decide +kernel
theorem dX6_putAll_3 : decode cX6_putAll 3 = .ok (.aload_n 1, 1) := by decide +kernel
theorem dX6_putAll_4 : decode cX6_putAll 4 = .ok (.getfield 16, 3) := by decide +kernel
theorem dX6_putAll_7 : decode cX6_putAll 7 = .ok (.if_icmp .ge 18, 3) := by decide +kernel
theorem dX6_putAll_10 : decode cX6_putAll 10 = .ok (.aload_n 0, 1) := by decide +kernel
theorem dX6_putAll_11 : decode cX6_putAll 11 = .ok (.aload_n 1, 1) := by decide +kernel
theorem dX6_putAll_12 : decode cX6_putAll 12 = .ok (.iload_n 2, 1) := by decide +kernel
theorem dX6_putAll_13 : decode cX6_putAll 13 = .ok (.invokevirtual 43, 3) := by decide +kernel
theorem dX6_putAll_16 : decode cX6_putAll 16 = .ok (.invokevirtual 35, 3) := by decide +kernel
theorem dX6_putAll_19 : decode cX6_putAll 19 = .ok (.iinc 2 1, 3) := by decide +kernel
theorem dX6_putAll_22 : decode cX6_putAll 22 = .ok (.goto (-20), 3) := by decide +kernel
theorem dX6_putAll_25 : decode cX6_putAll 25 = .ok (.return_, 1) := by decide +kernel
theorem dX6_indexOf_0 : decode cX6_indexOf 0 = .ok (.iload_n 2, 1) := by decide +kernel
theorem dX6_indexOf_1 : decode cX6_indexOf 1 = .ok (.iconst 0, 1) := by decide +kernel
theorem dX6_indexOf_2 : decode cX6_indexOf 2 = .ok (.invokestatic 46, 3) := by decide +kernel
theorem dX6_indexOf_5 : decode cX6_indexOf 5 = .ok (.istore_n 3, 1) := by decide +kernel
theorem dX6_indexOf_6 : decode cX6_indexOf 6 = .ok (.iload_n 3, 1) := by decide +kernel
theorem dX6_indexOf_7 : decode cX6_indexOf 7 = .ok (.aload_n 0, 1) := by decide +kernel
theorem dX6_indexOf_8 : decode cX6_indexOf 8 = .ok (.getfield 16, 3) := by decide +kernel
theorem dX6_indexOf_11 : decode cX6_indexOf 11 = .ok (.if_icmp .ge 19, 3) := by decide +kernel
theorem dX6_indexOf_14 : decode cX6_indexOf 14 = .ok (.aload_n 0, 1) := by decide +kernel
theorem dX6_indexOf_15 : decode cX6_indexOf 15 = .ok (.getfield 13, 3) := by decide +kernel
theorem dX6_indexOf_18 : decode cX6_indexOf 18 = .ok (.iload_n 3, 1) := by decide +kernel
theorem dX6_indexOf_19 : decode cX6_indexOf 19 = .ok (.caload, 1) := by decide +kernel
theorem dX6_indexOf_20 : decode cX6_indexOf 20 = .ok (.iload_n 1, 1) := by decide +kernel
theorem dX6_indexOf_21 : decode cX6_indexOf 21 = .ok (.if_icmp .eq 9, 3) := by decide +kernel
theorem dX6_indexOf_24 : decode cX6_indexOf 24 = .ok (.iinc 3 1, 3) := by decide +kernel
theorem dX6_indexOf_27 : decode cX6_indexOf 27 = .ok (.goto (-21), 3) := by decide +kernel
theorem dX6_indexOf_30 : decode cX6_indexOf 30 = .ok (.iload_n 3, 1) := by decide +kernel
theorem dX6_indexOf_31 : decode cX6_indexOf 31 = .ok (.ireturn, 1) := by decide +kernel
theorem dX6_holds_0 : decode cX6_holds 0 = .ok (.iload_n 2, 1) := by decide +kernel
theorem dX6_holds_1 : decode cX6_holds 1 = .ok (.ifCond .lt 16, 3) := by decide +kernel
theorem dX6_holds_4 : decode cX6_holds 4 = .ok (.iload_n 2, 1) := by decide +kernel
theorem dX6_holds_5 : decode cX6_holds 5 = .ok (.aload_n 1, 1) := by decide +kernel
theorem dX6_holds_6 : decode cX6_holds 6 = .ok (.invokevirtual 26, 3) := by decide +kernel
theorem dX6_holds_9 : decode cX6_holds 9 = .ok (.iadd, 1) := by decide +kernel
theorem dX6_holds_10 : decode cX6_holds 10 = .ok (.aload_n 0, 1) := by decide +kernel
theorem dX6_holds_11 : decode cX6_holds 11 = .ok (.getfield 16, 3) := by decide +kernel
theorem dX6_holds_14 : decode cX6_holds 14 = .ok (.if_icmp .le 5, 3) := by decide +kernel
theorem dX6_holds_17 : decode cX6_holds 17 = .ok (.iconst 0, 1) := by decide +kernel
theorem dX6_holds_18 : decode cX6_holds 18 = .ok (.ireturn, 1) := by decide +kernel
theorem dX6_holds_19 : decode cX6_holds 19 = .ok (.iconst 0, 1) := by decide +kernel
theorem dX6_holds_20 : decode cX6_holds 20 = .ok (.istore_n 3, 1) := by decide +kernel
theorem dX6_holds_21 : decode cX6_holds 21 = .ok (.iload_n 3, 1) := by decide +kernel
theorem dX6_holds_22 : decode cX6_holds 22 = .ok (.aload_n 1, 1) := by decide +kernel
theorem dX6_holds_23 : decode cX6_holds 23 = .ok (.invokevirtual 26, 3) := by decide +kernel
theorem dX6_holds_26 : decode cX6_holds 26 = .ok (.if_icmp .ge 27, 3) := by decide +kernel
theorem dX6_holds_29 : decode cX6_holds 29 = .ok (.aload_n 0, 1) := by decide +kernel
theorem dX6_holds_30 : decode cX6_holds 30 = .ok (.getfield 13, 3) := by decide +kernel
theorem dX6_holds_33 : decode cX6_holds 33 = .ok (.iload_n 2, 1) := by decide +kernel
theorem dX6_holds_34 : decode cX6_holds 34 = .ok (.iload_n 3, 1) := by decide +kernel
theorem dX6_holds_35 : decode cX6_holds 35 = .ok (.iadd, 1) := by decide +kernel
theorem dX6_holds_36 : decode cX6_holds 36 = .ok (.caload, 1) := by decide +kernel
theorem dX6_holds_37 : decode cX6_holds 37 = .ok (.aload_n 1, 1) := by decide +kernel
theorem dX6_holds_38 : decode cX6_holds 38 = .ok (.iload_n 3, 1) := by decide +kernel
theorem dX6_holds_39 : decode cX6_holds 39 = .ok (.invokevirtual 31, 3) := by decide +kernel
theorem dX6_holds_42 : decode cX6_holds 42 = .ok (.if_icmp .eq 5, 3) := by decide +kernel
theorem dX6_holds_45 : decode cX6_holds 45 = .ok (.iconst 0, 1) := by decide +kernel
theorem dX6_holds_46 : decode cX6_holds 46 = .ok (.ireturn, 1) := by decide +kernel
theorem dX6_holds_47 : decode cX6_holds 47 = .ok (.iinc 3 1, 3) := by decide +kernel
theorem dX6_holds_50 : decode cX6_holds 50 = .ok (.goto (-29), 3) := by decide +kernel
theorem dX6_holds_53 : decode cX6_holds 53 = .ok (.iconst 1, 1) := by decide +kernel
theorem dX6_holds_54 : decode cX6_holds 54 = .ok (.ireturn, 1) := by decide +kernel
theorem dX6_is_0 : decode cX6_is 0 = .ok (.aload_n 0, 1) := by decide +kernel
theorem dX6_is_1 : decode cX6_is 1 = .ok (.getfield 16, 3) := by decide +kernel
theorem dX6_is_4 : decode cX6_is 4 = .ok (.aload_n 1, 1) := by decide +kernel
theorem dX6_is_5 : decode cX6_is 5 = .ok (.invokevirtual 26, 3) := by decide +kernel
theorem dX6_is_8 : decode cX6_is 8 = .ok (.if_icmp .ne 16, 3) := by decide +kernel
theorem dX6_is_11 : decode cX6_is 11 = .ok (.aload_n 0, 1) := by decide +kernel
theorem dX6_is_12 : decode cX6_is 12 = .ok (.aload_n 1, 1) := by decide +kernel
theorem dX6_is_13 : decode cX6_is 13 = .ok (.iconst 0, 1) := by decide +kernel
theorem dX6_is_14 : decode cX6_is 14 = .ok (.invokevirtual 52, 3) := by decide +kernel
theorem dX6_is_17 : decode cX6_is 17 = .ok (.ifCond .eq 7, 3) := by decide +kernel
theorem dX6_is_20 : decode cX6_is 20 = .ok (.iconst 1, 1) := by decide +kernel
theorem dX6_is_21 : decode cX6_is 21 = .ok (.goto 4, 3) := by decide +kernel
theorem dX6_is_24 : decode cX6_is 24 = .ok (.iconst 0, 1) := by decide +kernel
theorem dX6_is_25 : decode cX6_is 25 = .ok (.ireturn, 1) := by decide +kernel
theorem dX6_isLike_0 : decode cX6_isLike 0 = .ok (.aload_n 0, 1) := by decide +kernel
theorem dX6_isLike_1 : decode cX6_isLike 1 = .ok (.getfield 16, 3) := by decide +kernel
theorem dX6_isLike_4 : decode cX6_isLike 4 = .ok (.aload_n 1, 1) := by decide +kernel
theorem dX6_isLike_5 : decode cX6_isLike 5 = .ok (.getfield 16, 3) := by decide +kernel
theorem dX6_isLike_8 : decode cX6_isLike 8 = .ok (.if_icmp .eq 5, 3) := by decide +kernel
theorem dX6_isLike_11 : decode cX6_isLike 11 = .ok (.iconst 0, 1) := by decide +kernel
theorem dX6_isLike_12 : decode cX6_isLike 12 = .ok (.ireturn, 1) := by decide +kernel
theorem dX6_isLike_13 : decode cX6_isLike 13 = .ok (.iconst 0, 1) := by decide +kernel
theorem dX6_isLike_14 : decode cX6_isLike 14 = .ok (.istore_n 2, 1) := by decide +kernel
theorem dX6_isLike_15 : decode cX6_isLike 15 = .ok (.iload_n 2, 1) := by decide +kernel
theorem dX6_isLike_16 : decode cX6_isLike 16 = .ok (.aload_n 0, 1) := by decide +kernel
theorem dX6_isLike_17 : decode cX6_isLike 17 = .ok (.getfield 16, 3) := by decide +kernel
theorem dX6_isLike_20 : decode cX6_isLike 20 = .ok (.if_icmp .ge 25, 3) := by decide +kernel
theorem dX6_isLike_23 : decode cX6_isLike 23 = .ok (.aload_n 0, 1) := by decide +kernel
theorem dX6_isLike_24 : decode cX6_isLike 24 = .ok (.getfield 13, 3) := by decide +kernel
theorem dX6_isLike_27 : decode cX6_isLike 27 = .ok (.iload_n 2, 1) := by decide +kernel
theorem dX6_isLike_28 : decode cX6_isLike 28 = .ok (.caload, 1) := by decide +kernel
theorem dX6_isLike_29 : decode cX6_isLike 29 = .ok (.aload_n 1, 1) := by decide +kernel
theorem dX6_isLike_30 : decode cX6_isLike 30 = .ok (.iload_n 2, 1) := by decide +kernel
theorem dX6_isLike_31 : decode cX6_isLike 31 = .ok (.invokevirtual 43, 3) := by decide +kernel
theorem dX6_isLike_34 : decode cX6_isLike 34 = .ok (.if_icmp .eq 5, 3) := by decide +kernel
theorem dX6_isLike_37 : decode cX6_isLike 37 = .ok (.iconst 0, 1) := by decide +kernel
theorem dX6_isLike_38 : decode cX6_isLike 38 = .ok (.ireturn, 1) := by decide +kernel
theorem dX6_isLike_39 : decode cX6_isLike 39 = .ok (.iinc 2 1, 3) := by decide +kernel
theorem dX6_isLike_42 : decode cX6_isLike 42 = .ok (.goto (-27), 3) := by decide +kernel
theorem dX6_isLike_45 : decode cX6_isLike 45 = .ok (.iconst 1, 1) := by decide +kernel
theorem dX6_isLike_46 : decode cX6_isLike 46 = .ok (.ireturn, 1) := by decide +kernel
theorem dX7_init_0 : decode cX7_init 0 = .ok (.aload_n 0, 1) := by decide +kernel
theorem dX7_init_1 : decode cX7_init 1 = .ok (.invokespecial 3, 3) := by decide +kernel
theorem dX7_init_4 : decode cX7_init 4 = .ok (.aload_n 0, 1) := by decide +kernel
theorem dX7_init_5 : decode cX7_init 5 = .ok (.new 9, 3) := by decide +kernel
theorem dX7_init_8 : decode cX7_init 8 = .ok (.dup, 1) := by decide +kernel
theorem dX7_init_9 : decode cX7_init 9 = .ok (.invokespecial 11, 3) := by decide +kernel
theorem dX7_init_12 : decode cX7_init 12 = .ok (.putfield 12, 3) := by decide +kernel
theorem dX7_init_15 : decode cX7_init 15 = .ok (.aload_n 0, 1) := by decide +kernel
theorem dX7_init_16 : decode cX7_init 16 = .ok (.new 9, 3) := by decide +kernel
theorem dX7_init_19 : decode cX7_init 19 = .ok (.dup, 1) := by decide +kernel
theorem dX7_init_20 : decode cX7_init 20 = .ok (.invokespecial 11, 3) := by decide +kernel
theorem dX7_init_23 : decode cX7_init 23 = .ok (.putfield 18, 3) := by decide +kernel
theorem dX7_init_26 : decode cX7_init 26 = .ok (.return_, 1) := by decide +kernel
theorem dX7_isSafe_0 : decode cX7_isSafe 0 = .ok (.iload_n 2, 1) := by decide +kernel
theorem dX7_isSafe_1 : decode cX7_isSafe 1 = .ok (.bipush 63, 2) := by decide +kernel
theorem dX7_isSafe_3 : decode cX7_isSafe 3 = .ok (.iand, 1) := by decide +kernel
theorem dX7_isSafe_4 : decode cX7_isSafe 4 = .ok (.istore_n 3, 1) := by decide +kernel
theorem dX7_isSafe_5 : decode cX7_isSafe 5 = .ok (.iload_n 2, 1) := by decide +kernel
theorem dX7_isSafe_6 : decode cX7_isSafe 6 = .ok (.bipush 6, 2) := by decide +kernel
theorem dX7_isSafe_8 : decode cX7_isSafe 8 = .ok (.ishr, 1) := by decide +kernel
theorem dX7_isSafe_9 : decode cX7_isSafe 9 = .ok (.bipush 63, 2) := by decide +kernel
theorem dX7_isSafe_11 : decode cX7_isSafe 11 = .ok (.iand, 1) := by decide +kernel
theorem dX7_isSafe_12 : decode cX7_isSafe 12 = .ok (.istore 4, 2) := by decide +kernel
theorem dX7_isSafe_14 : decode cX7_isSafe 14 = .ok (.aload_n 1, 1) := by decide +kernel
theorem dX7_isSafe_15 : decode cX7_isSafe 15 = .ok (.getfield 21, 3) := by decide +kernel
theorem dX7_isSafe_18 : decode cX7_isSafe 18 = .ok (.istore 5, 2) := by decide +kernel
theorem dX7_isSafe_20 : decode cX7_isSafe 20 = .ok (.aload_n 1, 1) := by decide +kernel
theorem dX7_isSafe_21 : decode cX7_isSafe 21 = .ok (.iload_n 3, 1) := by decide +kernel
theorem dX7_isSafe_22 : decode cX7_isSafe 22 = .ok (.iload 4, 2) := by decide +kernel
theorem dX7_isSafe_24 : decode cX7_isSafe 24 = .ok (.invokevirtual 25, 3) := by decide +kernel
theorem dX7_isSafe_27 : decode cX7_isSafe 27 = .ok (.ifCond .eq 34, 3) := by decide +kernel
theorem dX7_isSafe_30 : decode cX7_isSafe 30 = .ok (.aload_n 1, 1) := by decide +kernel
theorem dX7_isSafe_31 : decode cX7_isSafe 31 = .ok (.iload_n 3, 1) := by decide +kernel
theorem dX7_isSafe_32 : decode cX7_isSafe 32 = .ok (.iconst 1, 1) := by decide +kernel
theorem dX7_isSafe_33 : decode cX7_isSafe 33 = .ok (.iload 5, 2) := by decide +kernel
theorem dX7_isSafe_35 : decode cX7_isSafe 35 = .ok (.isub, 1) := by decide +kernel
theorem dX7_isSafe_36 : decode cX7_isSafe 36 = .ok (.invokevirtual 29, 3) := by decide +kernel
theorem dX7_isSafe_39 : decode cX7_isSafe 39 = .ok (.ifCond .ne 20, 3) := by decide +kernel
theorem dX7_isSafe_42 : decode cX7_isSafe 42 = .ok (.aload_n 1, 1) := by decide +kernel
theorem dX7_isSafe_43 : decode cX7_isSafe 43 = .ok (.iload_n 3, 1) := by decide +kernel
theorem dX7_isSafe_44 : decode cX7_isSafe 44 = .ok (.iload 4, 2) := by decide +kernel
theorem dX7_isSafe_46 : decode cX7_isSafe 46 = .ok (.iadd, 1) := by decide +kernel
theorem dX7_isSafe_47 : decode cX7_isSafe 47 = .ok (.iconst 2, 1) := by decide +kernel
theorem dX7_isSafe_48 : decode cX7_isSafe 48 = .ok (.idiv, 1) := by decide +kernel
theorem dX7_isSafe_49 : decode cX7_isSafe 49 = .ok (.iconst 1, 1) := by decide +kernel
theorem dX7_isSafe_50 : decode cX7_isSafe 50 = .ok (.iload 5, 2) := by decide +kernel
theorem dX7_isSafe_52 : decode cX7_isSafe 52 = .ok (.isub, 1) := by decide +kernel
theorem dX7_isSafe_53 : decode cX7_isSafe 53 = .ok (.invokevirtual 29, 3) := by decide +kernel
theorem dX7_isSafe_56 : decode cX7_isSafe 56 = .ok (.ifCond .eq 5, 3) := by decide +kernel
theorem dX7_isSafe_59 : decode cX7_isSafe 59 = .ok (.iconst 0, 1) := by decide +kernel
theorem dX7_isSafe_60 : decode cX7_isSafe 60 = .ok (.ireturn, 1) := by decide +kernel
theorem dX7_isSafe_61 : decode cX7_isSafe 61 = .ok (.aload_n 0, 1) := by decide +kernel
theorem dX7_isSafe_62 : decode cX7_isSafe 62 = .ok (.getfield 12, 3) := by decide +kernel
theorem dX7_isSafe_65 : decode cX7_isSafe 65 = .ok (.aload_n 1, 1) := by decide +kernel
theorem dX7_isSafe_66 : decode cX7_isSafe 66 = .ok (.invokevirtual 32, 3) := by decide +kernel
theorem dX7_isSafe_69 : decode cX7_isSafe 69 = .ok (.aload_n 0, 1) := by decide +kernel
theorem dX7_isSafe_70 : decode cX7_isSafe 70 = .ok (.getfield 12, 3) := by decide +kernel
theorem dX7_isSafe_73 : decode cX7_isSafe 73 = .ok (.iload_n 2, 1) := by decide +kernel
theorem dX7_isSafe_74 : decode cX7_isSafe 74 = .ok (.invokevirtual 36, 3) := by decide +kernel
theorem dX7_isSafe_77 : decode cX7_isSafe 77 = .ok (.aload_n 0, 1) := by decide +kernel
theorem dX7_isSafe_78 : decode cX7_isSafe 78 = .ok (.getfield 12, 3) := by decide +kernel
theorem dX7_isSafe_81 : decode cX7_isSafe 81 = .ok (.aload_n 0, 1) := by decide +kernel
theorem dX7_isSafe_82 : decode cX7_isSafe 82 = .ok (.getfield 12, 3) := by decide +kernel
theorem dX7_isSafe_85 : decode cX7_isSafe 85 = .ok (.iload 5, 2) := by decide +kernel
theorem dX7_isSafe_87 : decode cX7_isSafe 87 = .ok (.invokevirtual 40, 3) := by decide +kernel
theorem dX7_isSafe_90 : decode cX7_isSafe 90 = .ok (.iconst 1, 1) := by decide +kernel
theorem dX7_isSafe_91 : decode cX7_isSafe 91 = .ok (.iload 5, 2) := by decide +kernel
theorem dX7_isSafe_93 : decode cX7_isSafe 93 = .ok (.isub, 1) := by decide +kernel
theorem dX7_isSafe_94 : decode cX7_isSafe 94 = .ok (.invokevirtual 29, 3) := by decide +kernel
theorem dX7_isSafe_97 : decode cX7_isSafe 97 = .ok (.ifCond .ne 7, 3) := by decide +kernel
theorem dX7_isSafe_100 : decode cX7_isSafe 100 = .ok (.iconst 1, 1) := by decide +kernel
theorem dX7_isSafe_101 : decode cX7_isSafe 101 = .ok (.goto 4, 3) := by decide +kernel
theorem dX7_isSafe_104 : decode cX7_isSafe 104 = .ok (.iconst 0, 1) := by decide +kernel
theorem dX7_isSafe_105 : decode cX7_isSafe 105 = .ok (.ireturn, 1) := by decide +kernel
theorem dX7_isLegal_0 : decode cX7_isLegal 0 = .ok (.iload_n 2, 1) := by decide +kernel
theorem dX7_isLegal_1 : decode cX7_isLegal 1 = .ok (.bipush 63, 2) := by decide +kernel
theorem dX7_isLegal_3 : decode cX7_isLegal 3 = .ok (.iand, 1) := by decide +kernel
theorem dX7_isLegal_4 : decode cX7_isLegal 4 = .ok (.istore_n 3, 1) := by decide +kernel
theorem dX7_isLegal_5 : decode cX7_isLegal 5 = .ok (.iload_n 2, 1) := by decide +kernel
theorem dX7_isLegal_6 : decode cX7_isLegal 6 = .ok (.bipush 6, 2) := by decide +kernel
theorem dX7_isLegal_8 : decode cX7_isLegal 8 = .ok (.ishr, 1) := by decide +kernel
theorem dX7_isLegal_9 : decode cX7_isLegal 9 = .ok (.bipush 63, 2) := by decide +kernel
theorem dX7_isLegal_11 : decode cX7_isLegal 11 = .ok (.iand, 1) := by decide +kernel
theorem dX7_isLegal_12 : decode cX7_isLegal 12 = .ok (.istore 4, 2) := by decide +kernel
theorem dX7_isLegal_14 : decode cX7_isLegal 14 = .ok (.iload_n 2, 1) := by decide +kernel
theorem dX7_isLegal_15 : decode cX7_isLegal 15 = .ok (.bipush 12, 2) := by decide +kernel
theorem dX7_isLegal_17 : decode cX7_isLegal 17 = .ok (.ishr, 1) := by decide +kernel
theorem dX7_isLegal_18 : decode cX7_isLegal 18 = .ok (.istore 5, 2) := by decide +kernel
theorem dX7_isLegal_20 : decode cX7_isLegal 20 = .ok (.iload 5, 2) := by decide +kernel
theorem dX7_isLegal_22 : decode cX7_isLegal 22 = .ok (.ifCond .lt 25, 3) := by decide +kernel
theorem dX7_isLegal_25 : decode cX7_isLegal 25 = .ok (.iload 5, 2) := by decide +kernel
theorem dX7_isLegal_27 : decode cX7_isLegal 27 = .ok (.iconst 1, 1) := by decide +kernel
theorem dX7_isLegal_28 : decode cX7_isLegal 28 = .ok (.if_icmp .eq 19, 3) := by decide +kernel
theorem dX7_isLegal_31 : decode cX7_isLegal 31 = .ok (.iload 5, 2) := by decide +kernel
theorem dX7_isLegal_33 : decode cX7_isLegal 33 = .ok (.iconst 5, 1) := by decide +kernel
theorem dX7_isLegal_34 : decode cX7_isLegal 34 = .ok (.if_icmp .gt 13, 3) := by decide +kernel
theorem dX7_isLegal_37 : decode cX7_isLegal 37 = .ok (.aload_n 1, 1) := by decide +kernel
theorem dX7_isLegal_38 : decode cX7_isLegal 38 = .ok (.iload_n 3, 1) := by decide +kernel
theorem dX7_isLegal_39 : decode cX7_isLegal 39 = .ok (.iload 4, 2) := by decide +kernel
theorem dX7_isLegal_41 : decode cX7_isLegal 41 = .ok (.invokevirtual 44, 3) := by decide +kernel
theorem dX7_isLegal_44 : decode cX7_isLegal 44 = .ok (.ifCond .ne 5, 3) := by decide +kernel
theorem dX7_isLegal_47 : decode cX7_isLegal 47 = .ok (.iconst 0, 1) := by decide +kernel
theorem dX7_isLegal_48 : decode cX7_isLegal 48 = .ok (.ireturn, 1) := by decide +kernel
theorem dX7_isLegal_49 : decode cX7_isLegal 49 = .ok (.aload_n 1, 1) := by decide +kernel
theorem dX7_isLegal_50 : decode cX7_isLegal 50 = .ok (.iload_n 3, 1) := by decide +kernel
theorem dX7_isLegal_51 : decode cX7_isLegal 51 = .ok (.iload 4, 2) := by decide +kernel
theorem dX7_isLegal_53 : decode cX7_isLegal 53 = .ok (.invokevirtual 47, 3) := by decide +kernel
theorem dX7_isLegal_56 : decode cX7_isLegal 56 = .ok (.iload 5, 2) := by decide +kernel
theorem dX7_isLegal_58 : decode cX7_isLegal 58 = .ok (.ifCond .eq 7, 3) := by decide +kernel
theorem dX7_isLegal_61 : decode cX7_isLegal 61 = .ok (.iconst 1, 1) := by decide +kernel
theorem dX7_isLegal_62 : decode cX7_isLegal 62 = .ok (.goto 4, 3) := by decide +kernel
theorem dX7_isLegal_65 : decode cX7_isLegal 65 = .ok (.iconst 0, 1) := by decide +kernel
theorem dX7_isLegal_66 : decode cX7_isLegal 66 = .ok (.if_icmp .ne 16, 3) := by decide +kernel
theorem dX7_isLegal_69 : decode cX7_isLegal 69 = .ok (.aload_n 0, 1) := by decide +kernel
theorem dX7_isLegal_70 : decode cX7_isLegal 70 = .ok (.aload_n 1, 1) := by decide +kernel
theorem dX7_isLegal_71 : decode cX7_isLegal 71 = .ok (.iload_n 2, 1) := by decide +kernel
theorem dX7_isLegal_72 : decode cX7_isLegal 72 = .ok (.invokevirtual 50, 3) := by decide +kernel
theorem dX7_isLegal_75 : decode cX7_isLegal 75 = .ok (.ifCond .eq 7, 3) := by decide +kernel
theorem dX7_isLegal_78 : decode cX7_isLegal 78 = .ok (.iconst 1, 1) := by decide +kernel
theorem dX7_isLegal_79 : decode cX7_isLegal 79 = .ok (.goto 4, 3) := by decide +kernel
theorem dX7_isLegal_82 : decode cX7_isLegal 82 = .ok (.iconst 0, 1) := by decide +kernel
theorem dX7_isLegal_83 : decode cX7_isLegal 83 = .ok (.ireturn, 1) := by decide +kernel
theorem dX7_legalMove_0 : decode cX7_legalMove 0 = .ok (.iload_n 2, 1) := by decide +kernel
theorem dX7_legalMove_1 : decode cX7_legalMove 1 = .ok (.ifCond .ge 5, 3) := by decide +kernel
theorem dX7_legalMove_4 : decode cX7_legalMove 4 = .ok (.iconst (-1), 1) := by decide +kernel
theorem dX7_legalMove_5 : decode cX7_legalMove 5 = .ok (.ireturn, 1) := by decide +kernel
theorem dX7_legalMove_6 : decode cX7_legalMove 6 = .ok (.iload_n 2, 1) := by decide +kernel
theorem dX7_legalMove_7 : decode cX7_legalMove 7 = .ok (.istore_n 3, 1) := by decide +kernel
theorem dX7_legalMove_8 : decode cX7_legalMove 8 = .ok (.iconst 0, 1) := by decide +kernel
theorem dX7_legalMove_9 : decode cX7_legalMove 9 = .ok (.istore 4, 2) := by decide +kernel
theorem dX7_legalMove_11 : decode cX7_legalMove 11 = .ok (.iload 4, 2) := by decide +kernel
theorem dX7_legalMove_13 : decode cX7_legalMove 13 = .ok (.bipush 64, 2) := by decide +kernel
theorem dX7_legalMove_15 : decode cX7_legalMove 15 = .ok (.if_icmp .ge 107, 3) := by decide +kernel
theorem dX7_legalMove_18 : decode cX7_legalMove 18 = .ok (.iconst 0, 1) := by decide +kernel
theorem dX7_legalMove_19 : decode cX7_legalMove 19 = .ok (.istore 5, 2) := by decide +kernel
theorem dX7_legalMove_21 : decode cX7_legalMove 21 = .ok (.iload 5, 2) := by decide +kernel
theorem dX7_legalMove_23 : decode cX7_legalMove 23 = .ok (.bipush 64, 2) := by decide +kernel
theorem dX7_legalMove_25 : decode cX7_legalMove 25 = .ok (.if_icmp .ge 91, 3) := by decide +kernel
theorem dX7_legalMove_28 : decode cX7_legalMove 28 = .ok (.iload 4, 2) := by decide +kernel
theorem dX7_legalMove_30 : decode cX7_legalMove 30 = .ok (.bipush 64, 2) := by decide +kernel
theorem dX7_legalMove_32 : decode cX7_legalMove 32 = .ok (.iload 5, 2) := by decide +kernel
theorem dX7_legalMove_34 : decode cX7_legalMove 34 = .ok (.imul, 1) := by decide +kernel
theorem dX7_legalMove_35 : decode cX7_legalMove 35 = .ok (.iadd, 1) := by decide +kernel
theorem dX7_legalMove_36 : decode cX7_legalMove 36 = .ok (.istore 6, 2) := by decide +kernel
theorem dX7_legalMove_38 : decode cX7_legalMove 38 = .ok (.aload_n 1, 1) := by decide +kernel
theorem dX7_legalMove_39 : decode cX7_legalMove 39 = .ok (.iload 4, 2) := by decide +kernel
theorem dX7_legalMove_41 : decode cX7_legalMove 41 = .ok (.iload 5, 2) := by decide +kernel
theorem dX7_legalMove_43 : decode cX7_legalMove 43 = .ok (.invokevirtual 44, 3) := by decide +kernel
theorem dX7_legalMove_46 : decode cX7_legalMove 46 = .ok (.ifCond .eq 64, 3) := by decide +kernel
theorem dX7_legalMove_49 : decode cX7_legalMove 49 = .ok (.aload_n 0, 1) := by decide +kernel
theorem dX7_legalMove_50 : decode cX7_legalMove 50 = .ok (.aload_n 1, 1) := by decide +kernel
theorem dX7_legalMove_51 : decode cX7_legalMove 51 = .ok (.iload 6, 2) := by decide +kernel
theorem dX7_legalMove_53 : decode cX7_legalMove 53 = .ok (.invokevirtual 50, 3) := by decide +kernel
theorem dX7_legalMove_56 : decode cX7_legalMove 56 = .ok (.ifCond .eq 54, 3) := by decide +kernel
theorem dX7_legalMove_59 : decode cX7_legalMove 59 = .ok (.aload_n 1, 1) := by decide +kernel
theorem dX7_legalMove_60 : decode cX7_legalMove 60 = .ok (.iload 4, 2) := by decide +kernel
theorem dX7_legalMove_62 : decode cX7_legalMove 62 = .ok (.iload 5, 2) := by decide +kernel
theorem dX7_legalMove_64 : decode cX7_legalMove 64 = .ok (.invokevirtual 47, 3) := by decide +kernel
theorem dX7_legalMove_67 : decode cX7_legalMove 67 = .ok (.ifCond .eq 7, 3) := by decide +kernel
theorem dX7_legalMove_70 : decode cX7_legalMove 70 = .ok (.iconst 4, 1) := by decide +kernel
theorem dX7_legalMove_71 : decode cX7_legalMove 71 = .ok (.goto 4, 3) := by decide +kernel
theorem dX7_legalMove_74 : decode cX7_legalMove 74 = .ok (.iconst 1, 1) := by decide +kernel
theorem dX7_legalMove_75 : decode cX7_legalMove 75 = .ok (.istore 7, 2) := by decide +kernel
theorem dX7_legalMove_77 : decode cX7_legalMove 77 = .ok (.iload_n 3, 1) := by decide +kernel
theorem dX7_legalMove_78 : decode cX7_legalMove 78 = .ok (.iload 7, 2) := by decide +kernel
theorem dX7_legalMove_80 : decode cX7_legalMove 80 = .ok (.if_icmp .ge 25, 3) := by decide +kernel
theorem dX7_legalMove_83 : decode cX7_legalMove 83 = .ok (.iload 7, 2) := by decide +kernel
theorem dX7_legalMove_85 : decode cX7_legalMove 85 = .ok (.iconst 1, 1) := by decide +kernel
theorem dX7_legalMove_86 : decode cX7_legalMove 86 = .ok (.if_icmp .ne 8, 3) := by decide +kernel
theorem dX7_legalMove_89 : decode cX7_legalMove 89 = .ok (.iload 6, 2) := by decide +kernel
theorem dX7_legalMove_91 : decode cX7_legalMove 91 = .ok (.goto 13, 3) := by decide +kernel
theorem dX7_legalMove_94 : decode cX7_legalMove 94 = .ok (.iload 6, 2) := by decide +kernel
theorem dX7_legalMove_96 : decode cX7_legalMove 96 = .ok (.sipush 4096, 3) := by decide +kernel
theorem dX7_legalMove_99 : decode cX7_legalMove 99 = .ok (.iconst 2, 1) := by decide +kernel
theorem dX7_legalMove_100 : decode cX7_legalMove 100 = .ok (.iload_n 3, 1) := by decide +kernel
theorem dX7_legalMove_101 : decode cX7_legalMove 101 = .ok (.iadd, 1) := by decide +kernel
theorem dX7_legalMove_102 : decode cX7_legalMove 102 = .ok (.imul, 1) := by decide +kernel
theorem dX7_legalMove_103 : decode cX7_legalMove 103 = .ok (.iadd, 1) := by decide +kernel
theorem dX7_legalMove_104 : decode cX7_legalMove 104 = .ok (.ireturn, 1) := by decide +kernel
theorem dX7_legalMove_105 : decode cX7_legalMove 105 = .ok (.iload_n 3, 1) := by decide +kernel
theorem dX7_legalMove_106 : decode cX7_legalMove 106 = .ok (.iload 7, 2) := by decide +kernel
theorem dX7_legalMove_108 : decode cX7_legalMove 108 = .ok (.isub, 1) := by decide +kernel
theorem dX7_legalMove_109 : decode cX7_legalMove 109 = .ok (.istore_n 3, 1) := by decide +kernel
theorem dX7_legalMove_110 : decode cX7_legalMove 110 = .ok (.iinc 5 1, 3) := by decide +kernel
theorem dX7_legalMove_113 : decode cX7_legalMove 113 = .ok (.goto (-92), 3) := by decide +kernel
theorem dX7_legalMove_116 : decode cX7_legalMove 116 = .ok (.iinc 4 1, 3) := by decide +kernel
theorem dX7_legalMove_119 : decode cX7_legalMove 119 = .ok (.goto (-108), 3) := by decide +kernel
theorem dX7_legalMove_122 : decode cX7_legalMove 122 = .ok (.iconst (-1), 1) := by decide +kernel
theorem dX7_legalMove_123 : decode cX7_legalMove 123 = .ok (.ireturn, 1) := by decide +kernel
theorem dX7_checkSign_0 : decode cX7_checkSign 0 = .ok (.aload_n 0, 1) := by decide +kernel
theorem dX7_checkSign_1 : decode cX7_checkSign 1 = .ok (.getfield 18, 3) := by decide +kernel
theorem dX7_checkSign_4 : decode cX7_checkSign 4 = .ok (.aload_n 1, 1) := by decide +kernel
theorem dX7_checkSign_5 : decode cX7_checkSign 5 = .ok (.invokevirtual 32, 3) := by decide +kernel
theorem dX7_checkSign_8 : decode cX7_checkSign 8 = .ok (.aload_n 0, 1) := by decide +kernel
theorem dX7_checkSign_9 : decode cX7_checkSign 9 = .ok (.getfield 18, 3) := by decide +kernel
theorem dX7_checkSign_12 : decode cX7_checkSign 12 = .ok (.iload_n 2, 1) := by decide +kernel
theorem dX7_checkSign_13 : decode cX7_checkSign 13 = .ok (.invokevirtual 36, 3) := by decide +kernel
theorem dX7_checkSign_16 : decode cX7_checkSign 16 = .ok (.aload_n 0, 1) := by decide +kernel
theorem dX7_checkSign_17 : decode cX7_checkSign 17 = .ok (.getfield 18, 3) := by decide +kernel
theorem dX7_checkSign_20 : decode cX7_checkSign 20 = .ok (.aload_n 0, 1) := by decide +kernel
theorem dX7_checkSign_21 : decode cX7_checkSign 21 = .ok (.getfield 18, 3) := by decide +kernel
theorem dX7_checkSign_24 : decode cX7_checkSign 24 = .ok (.aload_n 0, 1) := by decide +kernel
theorem dX7_checkSign_25 : decode cX7_checkSign 25 = .ok (.getfield 18, 3) := by decide +kernel
theorem dX7_checkSign_28 : decode cX7_checkSign 28 = .ok (.getfield 21, 3) := by decide +kernel
theorem dX7_checkSign_31 : decode cX7_checkSign 31 = .ok (.invokevirtual 40, 3) := by decide +kernel
theorem dX7_checkSign_34 : decode cX7_checkSign 34 = .ok (.iconst 1, 1) := by decide +kernel
theorem dX7_checkSign_35 : decode cX7_checkSign 35 = .ok (.aload_n 0, 1) := by decide +kernel
theorem dX7_checkSign_36 : decode cX7_checkSign 36 = .ok (.getfield 18, 3) := by decide +kernel
theorem dX7_checkSign_39 : decode cX7_checkSign 39 = .ok (.getfield 21, 3) := by decide +kernel
theorem dX7_checkSign_42 : decode cX7_checkSign 42 = .ok (.isub, 1) := by decide +kernel
theorem dX7_checkSign_43 : decode cX7_checkSign 43 = .ok (.invokevirtual 29, 3) := by decide +kernel
theorem dX7_checkSign_46 : decode cX7_checkSign 46 = .ok (.ifCond .ne 5, 3) := by decide +kernel
theorem dX7_checkSign_49 : decode cX7_checkSign 49 = .ok (.iconst 0, 1) := by decide +kernel
theorem dX7_checkSign_50 : decode cX7_checkSign 50 = .ok (.ireturn, 1) := by decide +kernel
theorem dX7_checkSign_51 : decode cX7_checkSign 51 = .ok (.iconst 0, 1) := by decide +kernel
theorem dX7_checkSign_52 : decode cX7_checkSign 52 = .ok (.istore_n 3, 1) := by decide +kernel
theorem dX7_checkSign_53 : decode cX7_checkSign 53 = .ok (.iload_n 3, 1) := by decide +kernel
theorem dX7_checkSign_54 : decode cX7_checkSign 54 = .ok (.bipush 64, 2) := by decide +kernel
theorem dX7_checkSign_56 : decode cX7_checkSign 56 = .ok (.if_icmp .ge 59, 3) := by decide +kernel
theorem dX7_checkSign_59 : decode cX7_checkSign 59 = .ok (.iconst 0, 1) := by decide +kernel
theorem dX7_checkSign_60 : decode cX7_checkSign 60 = .ok (.istore 4, 2) := by decide +kernel
theorem dX7_checkSign_62 : decode cX7_checkSign 62 = .ok (.iload 4, 2) := by decide +kernel
theorem dX7_checkSign_64 : decode cX7_checkSign 64 = .ok (.bipush 64, 2) := by decide +kernel
theorem dX7_checkSign_66 : decode cX7_checkSign 66 = .ok (.if_icmp .ge 43, 3) := by decide +kernel
theorem dX7_checkSign_69 : decode cX7_checkSign 69 = .ok (.aload_n 0, 1) := by decide +kernel
theorem dX7_checkSign_70 : decode cX7_checkSign 70 = .ok (.getfield 18, 3) := by decide +kernel
theorem dX7_checkSign_73 : decode cX7_checkSign 73 = .ok (.iload_n 3, 1) := by decide +kernel
theorem dX7_checkSign_74 : decode cX7_checkSign 74 = .ok (.iload 4, 2) := by decide +kernel
theorem dX7_checkSign_76 : decode cX7_checkSign 76 = .ok (.invokevirtual 44, 3) := by decide +kernel
theorem dX7_checkSign_79 : decode cX7_checkSign 79 = .ok (.ifCond .eq 24, 3) := by decide +kernel
theorem dX7_checkSign_82 : decode cX7_checkSign 82 = .ok (.aload_n 0, 1) := by decide +kernel
theorem dX7_checkSign_83 : decode cX7_checkSign 83 = .ok (.aload_n 0, 1) := by decide +kernel
theorem dX7_checkSign_84 : decode cX7_checkSign 84 = .ok (.getfield 18, 3) := by decide +kernel
theorem dX7_checkSign_87 : decode cX7_checkSign 87 = .ok (.iload_n 3, 1) := by decide +kernel
theorem dX7_checkSign_88 : decode cX7_checkSign 88 = .ok (.bipush 64, 2) := by decide +kernel
theorem dX7_checkSign_90 : decode cX7_checkSign 90 = .ok (.iload 4, 2) := by decide +kernel
theorem dX7_checkSign_92 : decode cX7_checkSign 92 = .ok (.imul, 1) := by decide +kernel
theorem dX7_checkSign_93 : decode cX7_checkSign 93 = .ok (.iadd, 1) := by decide +kernel
theorem dX7_checkSign_94 : decode cX7_checkSign 94 = .ok (.invokevirtual 50, 3) := by decide +kernel
theorem dX7_checkSign_97 : decode cX7_checkSign 97 = .ok (.ifCond .eq 6, 3) := by decide +kernel
theorem dX7_checkSign_100 : decode cX7_checkSign 100 = .ok (.bipush 43, 2) := by decide +kernel
theorem dX7_checkSign_102 : decode cX7_checkSign 102 = .ok (.ireturn, 1) := by decide +kernel
theorem dX7_checkSign_103 : decode cX7_checkSign 103 = .ok (.iinc 4 1, 3) := by decide +kernel
theorem dX7_checkSign_106 : decode cX7_checkSign 106 = .ok (.goto (-44), 3) := by decide +kernel
theorem dX7_checkSign_109 : decode cX7_checkSign 109 = .ok (.iinc 3 1, 3) := by decide +kernel
theorem dX7_checkSign_112 : decode cX7_checkSign 112 = .ok (.goto (-59), 3) := by decide +kernel
theorem dX7_checkSign_115 : decode cX7_checkSign 115 = .ok (.bipush 35, 2) := by decide +kernel
theorem dX7_checkSign_117 : decode cX7_checkSign 117 = .ok (.ireturn, 1) := by decide +kernel
theorem dX8_init_0 : decode cX8_init 0 = .ok (.aload_n 0, 1) := by decide +kernel
theorem dX8_init_1 : decode cX8_init 1 = .ok (.invokespecial 3, 3) := by decide +kernel
theorem dX8_init_4 : decode cX8_init 4 = .ok (.aload_n 0, 1) := by decide +kernel
theorem dX8_init_5 : decode cX8_init 5 = .ok (.new 9, 3) := by decide +kernel
theorem dX8_init_8 : decode cX8_init 8 = .ok (.dup, 1) := by decide +kernel
theorem dX8_init_9 : decode cX8_init 9 = .ok (.invokespecial 11, 3) := by decide +kernel
theorem dX8_init_12 : decode cX8_init 12 = .ok (.putfield 12, 3) := by decide +kernel
theorem dX8_init_15 : decode cX8_init 15 = .ok (.aload_n 0, 1) := by decide +kernel
theorem dX8_init_16 : decode cX8_init 16 = .ok (.new 18, 3) := by decide +kernel
theorem dX8_init_19 : decode cX8_init 19 = .ok (.dup, 1) := by decide +kernel
theorem dX8_init_20 : decode cX8_init 20 = .ok (.invokespecial 20, 3) := by decide +kernel
theorem dX8_init_23 : decode cX8_init 23 = .ok (.putfield 21, 3) := by decide +kernel
theorem dX8_init_26 : decode cX8_init 26 = .ok (.aload_n 0, 1) := by decide +kernel
theorem dX8_init_27 : decode cX8_init 27 = .ok (.bipush 64, 2) := by decide +kernel
theorem dX8_init_29 : decode cX8_init 29 = .ok (.newarray .int, 2) := by decide +kernel
theorem dX8_init_31 : decode cX8_init 31 = .ok (.putfield 25, 3) := by decide +kernel
theorem dX8_init_34 : decode cX8_init 34 = .ok (.return_, 1) := by decide +kernel
theorem dX8_matched_0 : decode cX8_matched 0 = .ok (.aload_n 0, 1) := by decide +kernel
theorem dX8_matched_1 : decode cX8_matched 1 = .ok (.aload_n 2, 1) := by decide +kernel
theorem dX8_matched_2 : decode cX8_matched 2 = .ok (.iload_n 3, 1) := by decide +kernel
theorem dX8_matched_3 : decode cX8_matched 3 = .ok (.iload 4, 2) := by decide +kernel
theorem dX8_matched_5 : decode cX8_matched 5 = .ok (.invokevirtual 29, 3) := by decide +kernel
theorem dX8_matched_8 : decode cX8_matched 8 = .ok (.aload_n 0, 1) := by decide +kernel
theorem dX8_matched_9 : decode cX8_matched 9 = .ok (.invokevirtual 33, 3) := by decide +kernel
theorem dX8_matched_12 : decode cX8_matched 12 = .ok (.ifCond .eq 91, 3) := by decide +kernel
theorem dX8_matched_15 : decode cX8_matched 15 = .ok (.aload_n 0, 1) := by decide +kernel
theorem dX8_matched_16 : decode cX8_matched 16 = .ok (.aload_n 1, 1) := by decide +kernel
theorem dX8_matched_17 : decode cX8_matched 17 = .ok (.invokevirtual 37, 3) := by decide +kernel
theorem dX8_matched_20 : decode cX8_matched 20 = .ok (.iconst (-1), 1) := by decide +kernel
theorem dX8_matched_21 : decode cX8_matched 21 = .ok (.istore 5, 2) := by decide +kernel
theorem dX8_matched_23 : decode cX8_matched 23 = .ok (.iconst 0, 1) := by decide +kernel
theorem dX8_matched_24 : decode cX8_matched 24 = .ok (.istore 6, 2) := by decide +kernel
theorem dX8_matched_26 : decode cX8_matched 26 = .ok (.iconst 0, 1) := by decide +kernel
theorem dX8_matched_27 : decode cX8_matched 27 = .ok (.istore 7, 2) := by decide +kernel
theorem dX8_matched_29 : decode cX8_matched 29 = .ok (.iload 7, 2) := by decide +kernel
theorem dX8_matched_31 : decode cX8_matched 31 = .ok (.aload_n 0, 1) := by decide +kernel
theorem dX8_matched_32 : decode cX8_matched 32 = .ok (.getfield 41, 3) := by decide +kernel
theorem dX8_matched_35 : decode cX8_matched 35 = .ok (.if_icmp .ge 50, 3) := by decide +kernel
theorem dX8_matched_38 : decode cX8_matched 38 = .ok (.aload_n 0, 1) := by decide +kernel
theorem dX8_matched_39 : decode cX8_matched 39 = .ok (.getfield 45, 3) := by decide +kernel
theorem dX8_matched_42 : decode cX8_matched 42 = .ok (.ifCond .eq 25, 3) := by decide +kernel
theorem dX8_matched_45 : decode cX8_matched 45 = .ok (.aload_n 0, 1) := by decide +kernel
theorem dX8_matched_46 : decode cX8_matched 46 = .ok (.getfield 45, 3) := by decide +kernel
theorem dX8_matched_49 : decode cX8_matched 49 = .ok (.aload_n 0, 1) := by decide +kernel
theorem dX8_matched_50 : decode cX8_matched 50 = .ok (.getfield 12, 3) := by decide +kernel
theorem dX8_matched_53 : decode cX8_matched 53 = .ok (.aload_n 1, 1) := by decide +kernel
theorem dX8_matched_54 : decode cX8_matched 54 = .ok (.aload_n 0, 1) := by decide +kernel
theorem dX8_matched_55 : decode cX8_matched 55 = .ok (.getfield 25, 3) := by decide +kernel
theorem dX8_matched_58 : decode cX8_matched 58 = .ok (.iload 7, 2) := by decide +kernel
theorem dX8_matched_60 : decode cX8_matched 60 = .ok (.iaload, 1) := by decide +kernel
theorem dX8_matched_61 : decode cX8_matched 61 = .ok (.invokevirtual 49, 3) := by decide +kernel
theorem dX8_matched_64 : decode cX8_matched 64 = .ok (.if_icmp .ne 15, 3) := by decide +kernel
theorem dX8_matched_67 : decode cX8_matched 67 = .ok (.aload_n 0, 1) := by decide +kernel
theorem dX8_matched_68 : decode cX8_matched 68 = .ok (.getfield 25, 3) := by decide +kernel
theorem dX8_matched_71 : decode cX8_matched 71 = .ok (.iload 7, 2) := by decide +kernel
theorem dX8_matched_73 : decode cX8_matched 73 = .ok (.iaload, 1) := by decide +kernel
theorem dX8_matched_74 : decode cX8_matched 74 = .ok (.istore 5, 2) := by decide +kernel
theorem dX8_matched_76 : decode cX8_matched 76 = .ok (.iinc 6 1, 3) := by decide +kernel
theorem dX8_matched_79 : decode cX8_matched 79 = .ok (.iinc 7 1, 3) := by decide +kernel
theorem dX8_matched_82 : decode cX8_matched 82 = .ok (.goto (-53), 3) := by decide +kernel
theorem dX8_matched_85 : decode cX8_matched 85 = .ok (.iload 6, 2) := by decide +kernel
theorem dX8_matched_87 : decode cX8_matched 87 = .ok (.ifCond .le 16, 3) := by decide +kernel
theorem dX8_matched_90 : decode cX8_matched 90 = .ok (.iload 6, 2) := by decide +kernel
theorem dX8_matched_92 : decode cX8_matched 92 = .ok (.iconst 1, 1) := by decide +kernel
theorem dX8_matched_93 : decode cX8_matched 93 = .ok (.if_icmp .ne 8, 3) := by decide +kernel
theorem dX8_matched_96 : decode cX8_matched 96 = .ok (.iload 5, 2) := by decide +kernel
theorem dX8_matched_98 : decode cX8_matched 98 = .ok (.goto 4, 3) := by decide +kernel
theorem dX8_matched_101 : decode cX8_matched 101 = .ok (.iconst (-1), 1) := by decide +kernel
theorem dX8_matched_102 : decode cX8_matched 102 = .ok (.ireturn, 1) := by decide +kernel
theorem dX8_matched_103 : decode cX8_matched 103 = .ok (.aload_n 0, 1) := by decide +kernel
theorem dX8_matched_104 : decode cX8_matched 104 = .ok (.aload_n 2, 1) := by decide +kernel
theorem dX8_matched_105 : decode cX8_matched 105 = .ok (.iload_n 3, 1) := by decide +kernel
theorem dX8_matched_106 : decode cX8_matched 106 = .ok (.iload 4, 2) := by decide +kernel
theorem dX8_matched_108 : decode cX8_matched 108 = .ok (.invokevirtual 53, 3) := by decide +kernel
theorem dX8_matched_111 : decode cX8_matched 111 = .ok (.aload_n 0, 1) := by decide +kernel
theorem dX8_matched_112 : decode cX8_matched 112 = .ok (.invokevirtual 33, 3) := by decide +kernel
theorem dX8_matched_115 : decode cX8_matched 115 = .ok (.ifCond .ne 5, 3) := by decide +kernel
theorem dX8_matched_118 : decode cX8_matched 118 = .ok (.iconst (-1), 1) := by decide +kernel
theorem dX8_matched_119 : decode cX8_matched 119 = .ok (.ireturn, 1) := by decide +kernel
theorem dX8_matched_120 : decode cX8_matched 120 = .ok (.aload_n 0, 1) := by decide +kernel
theorem dX8_matched_121 : decode cX8_matched 121 = .ok (.iconst (-1), 1) := by decide +kernel
theorem dX8_matched_122 : decode cX8_matched 122 = .ok (.putfield 56, 3) := by decide +kernel
theorem dX8_matched_125 : decode cX8_matched 125 = .ok (.aload_n 0, 1) := by decide +kernel
theorem dX8_matched_126 : decode cX8_matched 126 = .ok (.aload_n 1, 1) := by decide +kernel
theorem dX8_matched_127 : decode cX8_matched 127 = .ok (.invokevirtual 37, 3) := by decide +kernel
theorem dX8_matched_130 : decode cX8_matched 130 = .ok (.aload_n 0, 1) := by decide +kernel
theorem dX8_matched_131 : decode cX8_matched 131 = .ok (.getfield 41, 3) := by decide +kernel
theorem dX8_matched_134 : decode cX8_matched 134 = .ok (.iconst 1, 1) := by decide +kernel
theorem dX8_matched_135 : decode cX8_matched 135 = .ok (.if_icmp .ne 8, 3) := by decide +kernel
theorem dX8_matched_138 : decode cX8_matched 138 = .ok (.bipush (-2), 2) := by decide +kernel
theorem dX8_matched_140 : decode cX8_matched 140 = .ok (.goto 4, 3) := by decide +kernel
theorem dX8_matched_143 : decode cX8_matched 143 = .ok (.iconst (-1), 1) := by decide +kernel
theorem dX8_matched_144 : decode cX8_matched 144 = .ok (.ireturn, 1) := by decide +kernel
theorem dX8_copyWhole_0 : decode cX8_copyWhole 0 = .ok (.aload_n 0, 1) := by decide +kernel
theorem dX8_copyWhole_1 : decode cX8_copyWhole 1 = .ok (.getfield 21, 3) := by decide +kernel
theorem dX8_copyWhole_4 : decode cX8_copyWhole 4 = .ok (.iconst 0, 1) := by decide +kernel
theorem dX8_copyWhole_5 : decode cX8_copyWhole 5 = .ok (.invokevirtual 59, 3) := by decide +kernel
theorem dX8_copyWhole_8 : decode cX8_copyWhole 8 = .ok (.iload_n 2, 1) := by decide +kernel
theorem dX8_copyWhole_9 : decode cX8_copyWhole 9 = .ok (.istore 4, 2) := by decide +kernel
theorem dX8_copyWhole_11 : decode cX8_copyWhole 11 = .ok (.iload 4, 2) := by decide +kernel
theorem dX8_copyWhole_13 : decode cX8_copyWhole 13 = .ok (.iload_n 3, 1) := by decide +kernel
theorem dX8_copyWhole_14 : decode cX8_copyWhole 14 = .ok (.if_icmp .ge 34, 3) := by decide +kernel
theorem dX8_copyWhole_17 : decode cX8_copyWhole 17 = .ok (.aload_n 0, 1) := by decide +kernel
theorem dX8_copyWhole_18 : decode cX8_copyWhole 18 = .ok (.getfield 21, 3) := by decide +kernel
theorem dX8_copyWhole_21 : decode cX8_copyWhole 21 = .ok (.invokevirtual 63, 3) := by decide +kernel
theorem dX8_copyWhole_24 : decode cX8_copyWhole 24 = .ok (.bipush 7, 2) := by decide +kernel
theorem dX8_copyWhole_26 : decode cX8_copyWhole 26 = .ok (.if_icmp .gt 22, 3) := by decide +kernel
theorem dX8_copyWhole_29 : decode cX8_copyWhole 29 = .ok (.aload_n 0, 1) := by decide +kernel
theorem dX8_copyWhole_30 : decode cX8_copyWhole 30 = .ok (.getfield 21, 3) := by decide +kernel
theorem dX8_copyWhole_33 : decode cX8_copyWhole 33 = .ok (.aload_n 1, 1) := by decide +kernel
theorem dX8_copyWhole_34 : decode cX8_copyWhole 34 = .ok (.iload 4, 2) := by decide +kernel
theorem dX8_copyWhole_36 : decode cX8_copyWhole 36 = .ok (.invokevirtual 67, 3) := by decide +kernel
theorem dX8_copyWhole_39 : decode cX8_copyWhole 39 = .ok (.invokevirtual 71, 3) := by decide +kernel
theorem dX8_copyWhole_42 : decode cX8_copyWhole 42 = .ok (.iinc 4 1, 3) := by decide +kernel
theorem dX8_copyWhole_45 : decode cX8_copyWhole 45 = .ok (.goto (-34), 3) := by decide +kernel
theorem dX8_copyWhole_48 : decode cX8_copyWhole 48 = .ok (.aload_n 0, 1) := by decide +kernel
theorem dX8_copyWhole_49 : decode cX8_copyWhole 49 = .ok (.getfield 21, 3) := by decide +kernel
theorem dX8_copyWhole_52 : decode cX8_copyWhole 52 = .ok (.aload_n 0, 1) := by decide +kernel
theorem dX8_copyWhole_53 : decode cX8_copyWhole 53 = .ok (.getfield 21, 3) := by decide +kernel
theorem dX8_copyWhole_56 : decode cX8_copyWhole 56 = .ok (.invokevirtual 63, 3) := by decide +kernel
theorem dX8_copyWhole_59 : decode cX8_copyWhole 59 = .ok (.iconst 1, 1) := by decide +kernel
theorem dX8_copyWhole_60 : decode cX8_copyWhole 60 = .ok (.isub, 1) := by decide +kernel
theorem dX8_copyWhole_61 : decode cX8_copyWhole 61 = .ok (.invokevirtual 67, 3) := by decide +kernel
theorem dX8_copyWhole_64 : decode cX8_copyWhole 64 = .ok (.istore 4, 2) := by decide +kernel
theorem dX8_copyWhole_66 : decode cX8_copyWhole 66 = .ok (.aload_n 0, 1) := by decide +kernel
theorem dX8_copyWhole_67 : decode cX8_copyWhole 67 = .ok (.iload 4, 2) := by decide +kernel
theorem dX8_copyWhole_69 : decode cX8_copyWhole 69 = .ok (.bipush 43, 2) := by decide +kernel
theorem dX8_copyWhole_71 : decode cX8_copyWhole 71 = .ok (.if_icmp .eq 10, 3) := by decide +kernel
theorem dX8_copyWhole_74 : decode cX8_copyWhole 74 = .ok (.iload 4, 2) := by decide +kernel
theorem dX8_copyWhole_76 : decode cX8_copyWhole 76 = .ok (.bipush 35, 2) := by decide +kernel
theorem dX8_copyWhole_78 : decode cX8_copyWhole 78 = .ok (.if_icmp .ne 8, 3) := by decide +kernel
theorem dX8_copyWhole_81 : decode cX8_copyWhole 81 = .ok (.iload 4, 2) := by decide +kernel
theorem dX8_copyWhole_83 : decode cX8_copyWhole 83 = .ok (.goto 4, 3) := by decide +kernel
theorem dX8_copyWhole_86 : decode cX8_copyWhole 86 = .ok (.iconst 0, 1) := by decide +kernel
theorem dX8_copyWhole_87 : decode cX8_copyWhole 87 = .ok (.putfield 45, 3) := by decide +kernel
theorem dX8_copyWhole_90 : decode cX8_copyWhole 90 = .ok (.aload_n 0, 1) := by decide +kernel
theorem dX8_copyWhole_91 : decode cX8_copyWhole 91 = .ok (.getfield 45, 3) := by decide +kernel
theorem dX8_copyWhole_94 : decode cX8_copyWhole 94 = .ok (.ifCond .eq 19, 3) := by decide +kernel
theorem dX8_copyWhole_97 : decode cX8_copyWhole 97 = .ok (.aload_n 0, 1) := by decide +kernel
theorem dX8_copyWhole_98 : decode cX8_copyWhole 98 = .ok (.getfield 21, 3) := by decide +kernel
theorem dX8_copyWhole_101 : decode cX8_copyWhole 101 = .ok (.aload_n 0, 1) := by decide +kernel
theorem dX8_copyWhole_102 : decode cX8_copyWhole 102 = .ok (.getfield 21, 3) := by decide +kernel
theorem dX8_copyWhole_105 : decode cX8_copyWhole 105 = .ok (.invokevirtual 63, 3) := by decide +kernel
theorem dX8_copyWhole_108 : decode cX8_copyWhole 108 = .ok (.iconst 1, 1) := by decide +kernel
theorem dX8_copyWhole_109 : decode cX8_copyWhole 109 = .ok (.isub, 1) := by decide +kernel
theorem dX8_copyWhole_110 : decode cX8_copyWhole 110 = .ok (.invokevirtual 59, 3) := by decide +kernel
theorem dX8_copyWhole_113 : decode cX8_copyWhole 113 = .ok (.return_, 1) := by decide +kernel
theorem dX8_copyBare_0 : decode cX8_copyBare 0 = .ok (.aload_n 0, 1) := by decide +kernel
theorem dX8_copyBare_1 : decode cX8_copyBare 1 = .ok (.getfield 21, 3) := by decide +kernel
theorem dX8_copyBare_4 : decode cX8_copyBare 4 = .ok (.iconst 0, 1) := by decide +kernel
theorem dX8_copyBare_5 : decode cX8_copyBare 5 = .ok (.invokevirtual 59, 3) := by decide +kernel
theorem dX8_copyBare_8 : decode cX8_copyBare 8 = .ok (.iload_n 2, 1) := by decide +kernel
theorem dX8_copyBare_9 : decode cX8_copyBare 9 = .ok (.istore 4, 2) := by decide +kernel
theorem dX8_copyBare_11 : decode cX8_copyBare 11 = .ok (.iload 4, 2) := by decide +kernel
theorem dX8_copyBare_13 : decode cX8_copyBare 13 = .ok (.iload_n 3, 1) := by decide +kernel
theorem dX8_copyBare_14 : decode cX8_copyBare 14 = .ok (.if_icmp .ge 59, 3) := by decide +kernel
theorem dX8_copyBare_17 : decode cX8_copyBare 17 = .ok (.aload_n 0, 1) := by decide +kernel
theorem dX8_copyBare_18 : decode cX8_copyBare 18 = .ok (.getfield 21, 3) := by decide +kernel
theorem dX8_copyBare_21 : decode cX8_copyBare 21 = .ok (.invokevirtual 63, 3) := by decide +kernel
theorem dX8_copyBare_24 : decode cX8_copyBare 24 = .ok (.bipush 7, 2) := by decide +kernel
theorem dX8_copyBare_26 : decode cX8_copyBare 26 = .ok (.if_icmp .gt 47, 3) := by decide +kernel
theorem dX8_copyBare_29 : decode cX8_copyBare 29 = .ok (.aload_n 1, 1) := by decide +kernel
theorem dX8_copyBare_30 : decode cX8_copyBare 30 = .ok (.iload 4, 2) := by decide +kernel
theorem dX8_copyBare_32 : decode cX8_copyBare 32 = .ok (.invokevirtual 67, 3) := by decide +kernel
theorem dX8_copyBare_35 : decode cX8_copyBare 35 = .ok (.istore 5, 2) := by decide +kernel
theorem dX8_copyBare_37 : decode cX8_copyBare 37 = .ok (.iload 5, 2) := by decide +kernel
theorem dX8_copyBare_39 : decode cX8_copyBare 39 = .ok (.bipush 120, 2) := by decide +kernel
theorem dX8_copyBare_41 : decode cX8_copyBare 41 = .ok (.if_icmp .eq 26, 3) := by decide +kernel
theorem dX8_copyBare_44 : decode cX8_copyBare 44 = .ok (.iload 5, 2) := by decide +kernel
theorem dX8_copyBare_46 : decode cX8_copyBare 46 = .ok (.bipush 43, 2) := by decide +kernel
theorem dX8_copyBare_48 : decode cX8_copyBare 48 = .ok (.if_icmp .eq 19, 3) := by decide +kernel
theorem dX8_copyBare_51 : decode cX8_copyBare 51 = .ok (.iload 5, 2) := by decide +kernel
theorem dX8_copyBare_53 : decode cX8_copyBare 53 = .ok (.bipush 35, 2) := by decide +kernel
theorem dX8_copyBare_55 : decode cX8_copyBare 55 = .ok (.if_icmp .eq 12, 3) := by decide +kernel
theorem dX8_copyBare_58 : decode cX8_copyBare 58 = .ok (.aload_n 0, 1) := by decide +kernel
theorem dX8_copyBare_59 : decode cX8_copyBare 59 = .ok (.getfield 21, 3) := by decide +kernel
theorem dX8_copyBare_62 : decode cX8_copyBare 62 = .ok (.iload 5, 2) := by decide +kernel
theorem dX8_copyBare_64 : decode cX8_copyBare 64 = .ok (.invokevirtual 71, 3) := by decide +kernel
theorem dX8_copyBare_67 : decode cX8_copyBare 67 = .ok (.iinc 4 1, 3) := by decide +kernel
theorem dX8_copyBare_70 : decode cX8_copyBare 70 = .ok (.goto (-59), 3) := by decide +kernel
theorem dX8_copyBare_73 : decode cX8_copyBare 73 = .ok (.return_, 1) := by decide +kernel
theorem dX8_parse_0 : decode cX8_parse 0 = .ok (.aload_n 0, 1) := by decide +kernel
theorem dX8_parse_1 : decode cX8_parse 1 = .ok (.iconst 0, 1) := by decide +kernel
theorem dX8_parse_2 : decode cX8_parse 2 = .ok (.putfield 75, 3) := by decide +kernel
theorem dX8_parse_5 : decode cX8_parse 5 = .ok (.aload_n 0, 1) := by decide +kernel
theorem dX8_parse_6 : decode cX8_parse 6 = .ok (.aload_n 0, 1) := by decide +kernel
theorem dX8_parse_7 : decode cX8_parse 7 = .ok (.getfield 21, 3) := by decide +kernel
theorem dX8_parse_10 : decode cX8_parse 10 = .ok (.ldc 78, 2) := by decide +kernel
theorem dX8_parse_12 : decode cX8_parse 12 = .ok (.invokevirtual 80, 3) := by decide +kernel
theorem dX8_parse_15 : decode cX8_parse 15 = .ok (.ifCond .eq 7, 3) := by decide +kernel
theorem dX8_parse_18 : decode cX8_parse 18 = .ok (.iconst 2, 1) := by decide +kernel
theorem dX8_parse_19 : decode cX8_parse 19 = .ok (.goto 21, 3) := by decide +kernel
theorem dX8_parse_22 : decode cX8_parse 22 = .ok (.aload_n 0, 1) := by decide +kernel
theorem dX8_parse_23 : decode cX8_parse 23 = .ok (.getfield 21, 3) := by decide +kernel
theorem dX8_parse_26 : decode cX8_parse 26 = .ok (.ldc 84, 2) := by decide +kernel
theorem dX8_parse_28 : decode cX8_parse 28 = .ok (.invokevirtual 80, 3) := by decide +kernel
theorem dX8_parse_31 : decode cX8_parse 31 = .ok (.ifCond .eq 8, 3) := by decide +kernel
theorem dX8_parse_34 : decode cX8_parse 34 = .ok (.bipush (-2), 2) := by decide +kernel
theorem dX8_parse_36 : decode cX8_parse 36 = .ok (.goto 4, 3) := by decide +kernel
theorem dX8_parse_39 : decode cX8_parse 39 = .ok (.iconst 0, 1) := by decide +kernel
theorem dX8_parse_40 : decode cX8_parse 40 = .ok (.putfield 86, 3) := by decide +kernel
theorem dX8_parse_43 : decode cX8_parse 43 = .ok (.aload_n 0, 1) := by decide +kernel
theorem dX8_parse_44 : decode cX8_parse 44 = .ok (.getfield 86, 3) := by decide +kernel
theorem dX8_parse_47 : decode cX8_parse 47 = .ok (.ifCond .eq 5, 3) := by decide +kernel
theorem dX8_parse_50 : decode cX8_parse 50 = .ok (.iconst 1, 1) := by decide +kernel
theorem dX8_parse_51 : decode cX8_parse 51 = .ok (.ireturn, 1) := by decide +kernel
theorem dX8_parse_52 : decode cX8_parse 52 = .ok (.aload_n 0, 1) := by decide +kernel
theorem dX8_parse_53 : decode cX8_parse 53 = .ok (.getfield 21, 3) := by decide +kernel
theorem dX8_parse_56 : decode cX8_parse 56 = .ok (.iconst 0, 1) := by decide +kernel
theorem dX8_parse_57 : decode cX8_parse 57 = .ok (.invokevirtual 67, 3) := by decide +kernel
theorem dX8_parse_60 : decode cX8_parse 60 = .ok (.invokestatic 89, 3) := by decide +kernel
theorem dX8_parse_63 : decode cX8_parse 63 = .ok (.iconst 2, 1) := by decide +kernel
theorem dX8_parse_64 : decode cX8_parse 64 = .ok (.if_icmp .lt 7, 3) := by decide +kernel
theorem dX8_parse_67 : decode cX8_parse 67 = .ok (.iconst 1, 1) := by decide +kernel
theorem dX8_parse_68 : decode cX8_parse 68 = .ok (.goto 4, 3) := by decide +kernel
theorem dX8_parse_71 : decode cX8_parse 71 = .ok (.iconst 0, 1) := by decide +kernel
theorem dX8_parse_72 : decode cX8_parse 72 = .ok (.istore_n 1, 1) := by decide +kernel
theorem dX8_parse_73 : decode cX8_parse 73 = .ok (.aload_n 0, 1) := by decide +kernel
theorem dX8_parse_74 : decode cX8_parse 74 = .ok (.getfield 21, 3) := by decide +kernel
theorem dX8_parse_77 : decode cX8_parse 77 = .ok (.invokevirtual 63, 3) := by decide +kernel
theorem dX8_parse_80 : decode cX8_parse 80 = .ok (.istore_n 2, 1) := by decide +kernel
theorem dX8_parse_81 : decode cX8_parse 81 = .ok (.aload_n 0, 1) := by decide +kernel
theorem dX8_parse_82 : decode cX8_parse 82 = .ok (.iload_n 1, 1) := by decide +kernel
theorem dX8_parse_83 : decode cX8_parse 83 = .ok (.iconst 1, 1) := by decide +kernel
theorem dX8_parse_84 : decode cX8_parse 84 = .ok (.if_icmp .ne 17, 3) := by decide +kernel
theorem dX8_parse_87 : decode cX8_parse 87 = .ok (.aload_n 0, 1) := by decide +kernel
theorem dX8_parse_88 : decode cX8_parse 88 = .ok (.getfield 21, 3) := by decide +kernel
theorem dX8_parse_91 : decode cX8_parse 91 = .ok (.iconst 0, 1) := by decide +kernel
theorem dX8_parse_92 : decode cX8_parse 92 = .ok (.invokevirtual 67, 3) := by decide +kernel
theorem dX8_parse_95 : decode cX8_parse 95 = .ok (.invokestatic 89, 3) := by decide +kernel
theorem dX8_parse_98 : decode cX8_parse 98 = .ok (.goto 4, 3) := by decide +kernel
theorem dX8_parse_101 : decode cX8_parse 101 = .ok (.iconst 1, 1) := by decide +kernel
theorem dX8_parse_102 : decode cX8_parse 102 = .ok (.putfield 93, 3) := by decide +kernel
theorem dX8_parse_105 : decode cX8_parse 105 = .ok (.aload_n 0, 1) := by decide +kernel
theorem dX8_parse_106 : decode cX8_parse 106 = .ok (.getfield 93, 3) := by decide +kernel
theorem dX8_parse_109 : decode cX8_parse 109 = .ok (.iconst 1, 1) := by decide +kernel
theorem dX8_parse_110 : decode cX8_parse 110 = .ok (.if_icmp .ne 56, 3) := by decide +kernel
theorem dX8_parse_113 : decode cX8_parse 113 = .ok (.aload_n 0, 1) := by decide +kernel
theorem dX8_parse_114 : decode cX8_parse 114 = .ok (.getfield 21, 3) := by decide +kernel
theorem dX8_parse_117 : decode cX8_parse 117 = .ok (.iload_n 2, 1) := by decide +kernel
theorem dX8_parse_118 : decode cX8_parse 118 = .ok (.iconst 2, 1) := by decide +kernel
theorem dX8_parse_119 : decode cX8_parse 119 = .ok (.isub, 1) := by decide +kernel
theorem dX8_parse_120 : decode cX8_parse 120 = .ok (.invokevirtual 67, 3) := by decide +kernel
theorem dX8_parse_123 : decode cX8_parse 123 = .ok (.bipush 61, 2) := by decide +kernel
theorem dX8_parse_125 : decode cX8_parse 125 = .ok (.if_icmp .ne 41, 3) := by decide +kernel
theorem dX8_parse_128 : decode cX8_parse 128 = .ok (.aload_n 0, 1) := by decide +kernel
theorem dX8_parse_129 : decode cX8_parse 129 = .ok (.aload_n 0, 1) := by decide +kernel
theorem dX8_parse_130 : decode cX8_parse 130 = .ok (.getfield 21, 3) := by decide +kernel
theorem dX8_parse_133 : decode cX8_parse 133 = .ok (.iload_n 2, 1) := by decide +kernel
theorem dX8_parse_134 : decode cX8_parse 134 = .ok (.iconst 1, 1) := by decide +kernel
theorem dX8_parse_135 : decode cX8_parse 135 = .ok (.isub, 1) := by decide +kernel
theorem dX8_parse_136 : decode cX8_parse 136 = .ok (.invokevirtual 67, 3) := by decide +kernel
theorem dX8_parse_139 : decode cX8_parse 139 = .ok (.invokestatic 89, 3) := by decide +kernel
theorem dX8_parse_142 : decode cX8_parse 142 = .ok (.putfield 75, 3) := by decide +kernel
theorem dX8_parse_145 : decode cX8_parse 145 = .ok (.aload_n 0, 1) := by decide +kernel
theorem dX8_parse_146 : decode cX8_parse 146 = .ok (.getfield 75, 3) := by decide +kernel
theorem dX8_parse_149 : decode cX8_parse 149 = .ok (.iconst 2, 1) := by decide +kernel
theorem dX8_parse_150 : decode cX8_parse 150 = .ok (.if_icmp .lt 11, 3) := by decide +kernel
theorem dX8_parse_153 : decode cX8_parse 153 = .ok (.aload_n 0, 1) := by decide +kernel
theorem dX8_parse_154 : decode cX8_parse 154 = .ok (.getfield 75, 3) := by decide +kernel
theorem dX8_parse_157 : decode cX8_parse 157 = .ok (.iconst 5, 1) := by decide +kernel
theorem dX8_parse_158 : decode cX8_parse 158 = .ok (.if_icmp .le 5, 3) := by decide +kernel
theorem dX8_parse_161 : decode cX8_parse 161 = .ok (.iconst 0, 1) := by decide +kernel
theorem dX8_parse_162 : decode cX8_parse 162 = .ok (.ireturn, 1) := by decide +kernel
theorem dX8_parse_163 : decode cX8_parse 163 = .ok (.iinc 2 (-2), 3) := by decide +kernel
theorem dX8_parse_166 : decode cX8_parse 166 = .ok (.aload_n 0, 1) := by decide +kernel
theorem dX8_parse_167 : decode cX8_parse 167 = .ok (.aload_n 0, 1) := by decide +kernel
theorem dX8_parse_168 : decode cX8_parse 168 = .ok (.getfield 21, 3) := by decide +kernel
theorem dX8_parse_171 : decode cX8_parse 171 = .ok (.iload_n 2, 1) := by decide +kernel
theorem dX8_parse_172 : decode cX8_parse 172 = .ok (.iconst 2, 1) := by decide +kernel
theorem dX8_parse_173 : decode cX8_parse 173 = .ok (.isub, 1) := by decide +kernel
theorem dX8_parse_174 : decode cX8_parse 174 = .ok (.invokevirtual 67, 3) := by decide +kernel
theorem dX8_parse_177 : decode cX8_parse 177 = .ok (.aload_n 0, 1) := by decide +kernel
theorem dX8_parse_178 : decode cX8_parse 178 = .ok (.getfield 21, 3) := by decide +kernel
theorem dX8_parse_181 : decode cX8_parse 181 = .ok (.iload_n 2, 1) := by decide +kernel
theorem dX8_parse_182 : decode cX8_parse 182 = .ok (.iconst 1, 1) := by decide +kernel
theorem dX8_parse_183 : decode cX8_parse 183 = .ok (.isub, 1) := by decide +kernel
theorem dX8_parse_184 : decode cX8_parse 184 = .ok (.invokevirtual 67, 3) := by decide +kernel
theorem dX8_parse_187 : decode cX8_parse 187 = .ok (.invokestatic 96, 3) := by decide +kernel
theorem dX8_parse_190 : decode cX8_parse 190 = .ok (.putfield 100, 3) := by decide +kernel
theorem dX8_parse_193 : decode cX8_parse 193 = .ok (.iinc 2 (-2), 3) := by decide +kernel
theorem dX8_parse_196 : decode cX8_parse 196 = .ok (.aload_n 0, 1) := by decide +kernel
theorem dX8_parse_197 : decode cX8_parse 197 = .ok (.getfield 100, 3) := by decide +kernel
theorem dX8_parse_200 : decode cX8_parse 200 = .ok (.iconst (-1), 1) := by decide +kernel
theorem dX8_parse_201 : decode cX8_parse 201 = .ok (.if_icmp .ne 5, 3) := by decide +kernel
theorem dX8_parse_204 : decode cX8_parse 204 = .ok (.iconst 0, 1) := by decide +kernel
theorem dX8_parse_205 : decode cX8_parse 205 = .ok (.ireturn, 1) := by decide +kernel
theorem dX8_parse_206 : decode cX8_parse 206 = .ok (.aload_n 0, 1) := by decide +kernel
theorem dX8_parse_207 : decode cX8_parse 207 = .ok (.iload_n 2, 1) := by decide +kernel
theorem dX8_parse_208 : decode cX8_parse 208 = .ok (.iload_n 1, 1) := by decide +kernel
theorem dX8_parse_209 : decode cX8_parse 209 = .ok (.if_icmp .le 22, 3) := by decide +kernel
theorem dX8_parse_212 : decode cX8_parse 212 = .ok (.aload_n 0, 1) := by decide +kernel
theorem dX8_parse_213 : decode cX8_parse 213 = .ok (.getfield 21, 3) := by decide +kernel
theorem dX8_parse_216 : decode cX8_parse 216 = .ok (.iload_n 2, 1) := by decide +kernel
theorem dX8_parse_217 : decode cX8_parse 217 = .ok (.iconst 1, 1) := by decide +kernel
theorem dX8_parse_218 : decode cX8_parse 218 = .ok (.isub, 1) := by decide +kernel
theorem dX8_parse_219 : decode cX8_parse 219 = .ok (.invokevirtual 67, 3) := by decide +kernel
theorem dX8_parse_222 : decode cX8_parse 222 = .ok (.bipush 120, 2) := by decide +kernel
theorem dX8_parse_224 : decode cX8_parse 224 = .ok (.if_icmp .ne 7, 3) := by decide +kernel
theorem dX8_parse_227 : decode cX8_parse 227 = .ok (.iconst 1, 1) := by decide +kernel
theorem dX8_parse_228 : decode cX8_parse 228 = .ok (.goto 4, 3) := by decide +kernel
theorem dX8_parse_231 : decode cX8_parse 231 = .ok (.iconst 0, 1) := by decide +kernel
theorem dX8_parse_232 : decode cX8_parse 232 = .ok (.putfield 56, 3) := by decide +kernel
theorem dX8_parse_235 : decode cX8_parse 235 = .ok (.aload_n 0, 1) := by decide +kernel
theorem dX8_parse_236 : decode cX8_parse 236 = .ok (.iload_n 1, 1) := by decide +kernel
theorem dX8_parse_237 : decode cX8_parse 237 = .ok (.iload_n 2, 1) := by decide +kernel
theorem dX8_parse_238 : decode cX8_parse 238 = .ok (.aload_n 0, 1) := by decide +kernel
theorem dX8_parse_239 : decode cX8_parse 239 = .ok (.getfield 56, 3) := by decide +kernel
theorem dX8_parse_242 : decode cX8_parse 242 = .ok (.isub, 1) := by decide +kernel
theorem dX8_parse_243 : decode cX8_parse 243 = .ok (.invokevirtual 103, 3) := by decide +kernel
theorem dX8_parse_246 : decode cX8_parse 246 = .ok (.ireturn, 1) := by decide +kernel
theorem dX8_parseApart_0 : decode cX8_parseApart 0 = .ok (.iload_n 1, 1) := by decide +kernel
theorem dX8_parseApart_1 : decode cX8_parseApart 1 = .ok (.istore_n 3, 1) := by decide +kernel
theorem dX8_parseApart_2 : decode cX8_parseApart 2 = .ok (.aload_n 0, 1) := by decide +kernel
theorem dX8_parseApart_3 : decode cX8_parseApart 3 = .ok (.iconst (-1), 1) := by decide +kernel
theorem dX8_parseApart_4 : decode cX8_parseApart 4 = .ok (.putfield 107, 3) := by decide +kernel
theorem dX8_parseApart_7 : decode cX8_parseApart 7 = .ok (.aload_n 0, 1) := by decide +kernel
theorem dX8_parseApart_8 : decode cX8_parseApart 8 = .ok (.iconst (-1), 1) := by decide +kernel
theorem dX8_parseApart_9 : decode cX8_parseApart 9 = .ok (.putfield 110, 3) := by decide +kernel
theorem dX8_parseApart_12 : decode cX8_parseApart 12 = .ok (.iload_n 3, 1) := by decide +kernel
theorem dX8_parseApart_13 : decode cX8_parseApart 13 = .ok (.iload_n 2, 1) := by decide +kernel
theorem dX8_parseApart_14 : decode cX8_parseApart 14 = .ok (.if_icmp .ge 35, 3) := by decide +kernel
theorem dX8_parseApart_17 : decode cX8_parseApart 17 = .ok (.aload_n 0, 1) := by decide +kernel
theorem dX8_parseApart_18 : decode cX8_parseApart 18 = .ok (.getfield 21, 3) := by decide +kernel
theorem dX8_parseApart_21 : decode cX8_parseApart 21 = .ok (.iload_n 3, 1) := by decide +kernel
theorem dX8_parseApart_22 : decode cX8_parseApart 22 = .ok (.invokevirtual 67, 3) := by decide +kernel
theorem dX8_parseApart_25 : decode cX8_parseApart 25 = .ok (.invokestatic 113, 3) := by decide +kernel
theorem dX8_parseApart_28 : decode cX8_parseApart 28 = .ok (.ifCond .eq 21, 3) := by decide +kernel
theorem dX8_parseApart_31 : decode cX8_parseApart 31 = .ok (.aload_n 0, 1) := by decide +kernel
theorem dX8_parseApart_32 : decode cX8_parseApart 32 = .ok (.aload_n 0, 1) := by decide +kernel
theorem dX8_parseApart_33 : decode cX8_parseApart 33 = .ok (.getfield 21, 3) := by decide +kernel
theorem dX8_parseApart_36 : decode cX8_parseApart 36 = .ok (.iload_n 3, 1) := by decide +kernel
theorem dX8_parseApart_37 : decode cX8_parseApart 37 = .ok (.invokevirtual 67, 3) := by decide +kernel
theorem dX8_parseApart_40 : decode cX8_parseApart 40 = .ok (.bipush 97, 2) := by decide +kernel
theorem dX8_parseApart_42 : decode cX8_parseApart 42 = .ok (.isub, 1) := by decide +kernel
theorem dX8_parseApart_43 : decode cX8_parseApart 43 = .ok (.putfield 107, 3) := by decide +kernel
theorem dX8_parseApart_46 : decode cX8_parseApart 46 = .ok (.iinc 3 1, 3) := by decide +kernel
theorem dX8_parseApart_49 : decode cX8_parseApart 49 = .ok (.iload_n 3, 1) := by decide +kernel
theorem dX8_parseApart_50 : decode cX8_parseApart 50 = .ok (.iload_n 2, 1) := by decide +kernel
theorem dX8_parseApart_51 : decode cX8_parseApart 51 = .ok (.if_icmp .ge 43, 3) := by decide +kernel
theorem dX8_parseApart_54 : decode cX8_parseApart 54 = .ok (.aload_n 0, 1) := by decide +kernel
theorem dX8_parseApart_55 : decode cX8_parseApart 55 = .ok (.getfield 93, 3) := by decide +kernel
theorem dX8_parseApart_58 : decode cX8_parseApart 58 = .ok (.iconst 1, 1) := by decide +kernel
theorem dX8_parseApart_59 : decode cX8_parseApart 59 = .ok (.if_icmp .eq 35, 3) := by decide +kernel
theorem dX8_parseApart_62 : decode cX8_parseApart 62 = .ok (.aload_n 0, 1) := by decide +kernel
theorem dX8_parseApart_63 : decode cX8_parseApart 63 = .ok (.getfield 21, 3) := by decide +kernel
theorem dX8_parseApart_66 : decode cX8_parseApart 66 = .ok (.iload_n 3, 1) := by decide +kernel
theorem dX8_parseApart_67 : decode cX8_parseApart 67 = .ok (.invokevirtual 67, 3) := by decide +kernel
theorem dX8_parseApart_70 : decode cX8_parseApart 70 = .ok (.invokestatic 117, 3) := by decide +kernel
theorem dX8_parseApart_73 : decode cX8_parseApart 73 = .ok (.ifCond .eq 21, 3) := by decide +kernel
theorem dX8_parseApart_76 : decode cX8_parseApart 76 = .ok (.aload_n 0, 1) := by decide +kernel
theorem dX8_parseApart_77 : decode cX8_parseApart 77 = .ok (.aload_n 0, 1) := by decide +kernel
theorem dX8_parseApart_78 : decode cX8_parseApart 78 = .ok (.getfield 21, 3) := by decide +kernel
theorem dX8_parseApart_81 : decode cX8_parseApart 81 = .ok (.iload_n 3, 1) := by decide +kernel
theorem dX8_parseApart_82 : decode cX8_parseApart 82 = .ok (.invokevirtual 67, 3) := by decide +kernel
theorem dX8_parseApart_85 : decode cX8_parseApart 85 = .ok (.bipush 49, 2) := by decide +kernel
theorem dX8_parseApart_87 : decode cX8_parseApart 87 = .ok (.isub, 1) := by decide +kernel
theorem dX8_parseApart_88 : decode cX8_parseApart 88 = .ok (.putfield 110, 3) := by decide +kernel
theorem dX8_parseApart_91 : decode cX8_parseApart 91 = .ok (.iinc 3 1, 3) := by decide +kernel
theorem dX8_parseApart_94 : decode cX8_parseApart 94 = .ok (.iload_n 3, 1) := by decide +kernel
theorem dX8_parseApart_95 : decode cX8_parseApart 95 = .ok (.iload_n 2, 1) := by decide +kernel
theorem dX8_parseApart_96 : decode cX8_parseApart 96 = .ok (.if_icmp .ne 7, 3) := by decide +kernel
theorem dX8_parseApart_99 : decode cX8_parseApart 99 = .ok (.iconst 1, 1) := by decide +kernel
theorem dX8_parseApart_100 : decode cX8_parseApart 100 = .ok (.goto 4, 3) := by decide +kernel
theorem dX8_parseApart_103 : decode cX8_parseApart 103 = .ok (.iconst 0, 1) := by decide +kernel
theorem dX8_parseApart_104 : decode cX8_parseApart 104 = .ok (.ireturn, 1) := by decide +kernel
theorem dX8_gather_0 : decode cX8_gather 0 = .ok (.aload_n 0, 1) := by decide +kernel
theorem dX8_gather_1 : decode cX8_gather 1 = .ok (.iconst 0, 1) := by decide +kernel
theorem dX8_gather_2 : decode cX8_gather 2 = .ok (.putfield 41, 3) := by decide +kernel
theorem dX8_gather_5 : decode cX8_gather 5 = .ok (.aload_n 1, 1) := by decide +kernel
theorem dX8_gather_6 : decode cX8_gather 6 = .ok (.getfield 120, 3) := by decide +kernel
theorem dX8_gather_9 : decode cX8_gather 9 = .ok (.ifCond .ne 7, 3) := by decide +kernel
theorem dX8_gather_12 : decode cX8_gather 12 = .ok (.iconst 4, 1) := by decide +kernel
theorem dX8_gather_13 : decode cX8_gather 13 = .ok (.goto 5, 3) := by decide +kernel
theorem dX8_gather_16 : decode cX8_gather 16 = .ok (.bipush 60, 2) := by decide +kernel
theorem dX8_gather_18 : decode cX8_gather 18 = .ok (.istore_n 2, 1) := by decide +kernel
theorem dX8_gather_19 : decode cX8_gather 19 = .ok (.aload_n 0, 1) := by decide +kernel
theorem dX8_gather_20 : decode cX8_gather 20 = .ok (.getfield 86, 3) := by decide +kernel
theorem dX8_gather_23 : decode cX8_gather 23 = .ok (.ifCond .eq 13, 3) := by decide +kernel
theorem dX8_gather_26 : decode cX8_gather 26 = .ok (.aload_n 0, 1) := by decide +kernel
theorem dX8_gather_27 : decode cX8_gather 27 = .ok (.iload_n 2, 1) := by decide +kernel
theorem dX8_gather_28 : decode cX8_gather 28 = .ok (.aload_n 0, 1) := by decide +kernel
theorem dX8_gather_29 : decode cX8_gather 29 = .ok (.getfield 86, 3) := by decide +kernel
theorem dX8_gather_32 : decode cX8_gather 32 = .ok (.iadd, 1) := by decide +kernel
theorem dX8_gather_33 : decode cX8_gather 33 = .ok (.putfield 100, 3) := by decide +kernel
theorem dX8_gather_36 : decode cX8_gather 36 = .ok (.iconst 0, 1) := by decide +kernel
theorem dX8_gather_37 : decode cX8_gather 37 = .ok (.istore_n 3, 1) := by decide +kernel
theorem dX8_gather_38 : decode cX8_gather 38 = .ok (.iload_n 3, 1) := by decide +kernel
theorem dX8_gather_39 : decode cX8_gather 39 = .ok (.bipush 64, 2) := by decide +kernel
theorem dX8_gather_41 : decode cX8_gather 41 = .ok (.if_icmp .ge 120, 3) := by decide +kernel
theorem dX8_gather_44 : decode cX8_gather 44 = .ok (.aload_n 0, 1) := by decide +kernel
theorem dX8_gather_45 : decode cX8_gather 45 = .ok (.getfield 86, 3) := by decide +kernel
theorem dX8_gather_48 : decode cX8_gather 48 = .ok (.ifCond .eq 28, 3) := by decide +kernel
theorem dX8_gather_51 : decode cX8_gather 51 = .ok (.iload_n 3, 1) := by decide +kernel
theorem dX8_gather_52 : decode cX8_gather 52 = .ok (.iload_n 2, 1) := by decide +kernel
theorem dX8_gather_53 : decode cX8_gather 53 = .ok (.if_icmp .ne 19, 3) := by decide +kernel
theorem dX8_gather_56 : decode cX8_gather 56 = .ok (.aload_n 1, 1) := by decide +kernel
theorem dX8_gather_57 : decode cX8_gather 57 = .ok (.iload_n 3, 1) := by decide +kernel
theorem dX8_gather_58 : decode cX8_gather 58 = .ok (.aload_n 0, 1) := by decide +kernel
theorem dX8_gather_59 : decode cX8_gather 59 = .ok (.getfield 100, 3) := by decide +kernel
theorem dX8_gather_62 : decode cX8_gather 62 = .ok (.invokevirtual 125, 3) := by decide +kernel
theorem dX8_gather_65 : decode cX8_gather 65 = .ok (.ifCond .eq 7, 3) := by decide +kernel
theorem dX8_gather_68 : decode cX8_gather 68 = .ok (.iconst 1, 1) := by decide +kernel
theorem dX8_gather_69 : decode cX8_gather 69 = .ok (.goto 13, 3) := by decide +kernel
theorem dX8_gather_72 : decode cX8_gather 72 = .ok (.iconst 0, 1) := by decide +kernel
theorem dX8_gather_73 : decode cX8_gather 73 = .ok (.goto 9, 3) := by decide +kernel
theorem dX8_gather_76 : decode cX8_gather 76 = .ok (.aload_n 0, 1) := by decide +kernel
theorem dX8_gather_77 : decode cX8_gather 77 = .ok (.aload_n 1, 1) := by decide +kernel
theorem dX8_gather_78 : decode cX8_gather 78 = .ok (.iload_n 3, 1) := by decide +kernel
theorem dX8_gather_79 : decode cX8_gather 79 = .ok (.invokevirtual 128, 3) := by decide +kernel
theorem dX8_gather_82 : decode cX8_gather 82 = .ok (.istore 4, 2) := by decide +kernel
theorem dX8_gather_84 : decode cX8_gather 84 = .ok (.iload_n 3, 1) := by decide +kernel
theorem dX8_gather_85 : decode cX8_gather 85 = .ok (.bipush 64, 2) := by decide +kernel
theorem dX8_gather_87 : decode cX8_gather 87 = .ok (.aload_n 0, 1) := by decide +kernel
theorem dX8_gather_88 : decode cX8_gather 88 = .ok (.getfield 100, 3) := by decide +kernel
theorem dX8_gather_91 : decode cX8_gather 91 = .ok (.imul, 1) := by decide +kernel
theorem dX8_gather_92 : decode cX8_gather 92 = .ok (.iadd, 1) := by decide +kernel
theorem dX8_gather_93 : decode cX8_gather 93 = .ok (.sipush 4096, 3) := by decide +kernel
theorem dX8_gather_96 : decode cX8_gather 96 = .ok (.aload_n 0, 1) := by decide +kernel
theorem dX8_gather_97 : decode cX8_gather 97 = .ok (.getfield 75, 3) := by decide +kernel
theorem dX8_gather_100 : decode cX8_gather 100 = .ok (.imul, 1) := by decide +kernel
theorem dX8_gather_101 : decode cX8_gather 101 = .ok (.iadd, 1) := by decide +kernel
theorem dX8_gather_102 : decode cX8_gather 102 = .ok (.istore 5, 2) := by decide +kernel
theorem dX8_gather_104 : decode cX8_gather 104 = .ok (.iload 4, 2) := by decide +kernel
theorem dX8_gather_106 : decode cX8_gather 106 = .ok (.ifCond .eq 49, 3) := by decide +kernel
theorem dX8_gather_109 : decode cX8_gather 109 = .ok (.aload_n 1, 1) := by decide +kernel
theorem dX8_gather_110 : decode cX8_gather 110 = .ok (.iload_n 3, 1) := by decide +kernel
theorem dX8_gather_111 : decode cX8_gather 111 = .ok (.aload_n 0, 1) := by decide +kernel
theorem dX8_gather_112 : decode cX8_gather 112 = .ok (.getfield 100, 3) := by decide +kernel
theorem dX8_gather_115 : decode cX8_gather 115 = .ok (.invokevirtual 132, 3) := by decide +kernel
theorem dX8_gather_118 : decode cX8_gather 118 = .ok (.ifCond .eq 37, 3) := by decide +kernel
theorem dX8_gather_121 : decode cX8_gather 121 = .ok (.aload_n 0, 1) := by decide +kernel
theorem dX8_gather_122 : decode cX8_gather 122 = .ok (.getfield 12, 3) := by decide +kernel
theorem dX8_gather_125 : decode cX8_gather 125 = .ok (.aload_n 1, 1) := by decide +kernel
theorem dX8_gather_126 : decode cX8_gather 126 = .ok (.iload 5, 2) := by decide +kernel
theorem dX8_gather_128 : decode cX8_gather 128 = .ok (.invokevirtual 135, 3) := by decide +kernel
theorem dX8_gather_131 : decode cX8_gather 131 = .ok (.ifCond .eq 24, 3) := by decide +kernel
theorem dX8_gather_134 : decode cX8_gather 134 = .ok (.aload_n 0, 1) := by decide +kernel
theorem dX8_gather_135 : decode cX8_gather 135 = .ok (.getfield 25, 3) := by decide +kernel
theorem dX8_gather_138 : decode cX8_gather 138 = .ok (.aload_n 0, 1) := by decide +kernel
theorem dX8_gather_139 : decode cX8_gather 139 = .ok (.getfield 41, 3) := by decide +kernel
theorem dX8_gather_142 : decode cX8_gather 142 = .ok (.iload 5, 2) := by decide +kernel
theorem dX8_gather_144 : decode cX8_gather 144 = .ok (.iastore, 1) := by decide +kernel
theorem dX8_gather_145 : decode cX8_gather 145 = .ok (.aload_n 0, 1) := by decide +kernel
theorem dX8_gather_146 : decode cX8_gather 146 = .ok (.dup, 1) := by decide +kernel
theorem dX8_gather_147 : decode cX8_gather 147 = .ok (.getfield 41, 3) := by decide +kernel
theorem dX8_gather_150 : decode cX8_gather 150 = .ok (.iconst 1, 1) := by decide +kernel
theorem dX8_gather_151 : decode cX8_gather 151 = .ok (.iadd, 1) := by decide +kernel
theorem dX8_gather_152 : decode cX8_gather 152 = .ok (.putfield 41, 3) := by decide +kernel
theorem dX8_gather_155 : decode cX8_gather 155 = .ok (.iinc 3 1, 3) := by decide +kernel
theorem dX8_gather_158 : decode cX8_gather 158 = .ok (.goto (-120), 3) := by decide +kernel
theorem dX8_gather_161 : decode cX8_gather 161 = .ok (.return_, 1) := by decide +kernel
theorem dX8_fitsFrom_0 : decode cX8_fitsFrom 0 = .ok (.aload_n 1, 1) := by decide +kernel
theorem dX8_fitsFrom_1 : decode cX8_fitsFrom 1 = .ok (.getfield 138, 3) := by decide +kernel
theorem dX8_fitsFrom_4 : decode cX8_fitsFrom 4 = .ok (.iload_n 2, 1) := by decide +kernel
theorem dX8_fitsFrom_5 : decode cX8_fitsFrom 5 = .ok (.iaload, 1) := by decide +kernel
theorem dX8_fitsFrom_6 : decode cX8_fitsFrom 6 = .ok (.aload_n 0, 1) := by decide +kernel
theorem dX8_fitsFrom_7 : decode cX8_fitsFrom 7 = .ok (.getfield 93, 3) := by decide +kernel
theorem dX8_fitsFrom_10 : decode cX8_fitsFrom 10 = .ok (.bipush 8, 2) := by decide +kernel
theorem dX8_fitsFrom_12 : decode cX8_fitsFrom 12 = .ok (.aload_n 1, 1) := by decide +kernel
theorem dX8_fitsFrom_13 : decode cX8_fitsFrom 13 = .ok (.getfield 120, 3) := by decide +kernel
theorem dX8_fitsFrom_16 : decode cX8_fitsFrom 16 = .ok (.imul, 1) := by decide +kernel
theorem dX8_fitsFrom_17 : decode cX8_fitsFrom 17 = .ok (.iadd, 1) := by decide +kernel
theorem dX8_fitsFrom_18 : decode cX8_fitsFrom 18 = .ok (.if_icmp .ne 52, 3) := by decide +kernel
theorem dX8_fitsFrom_21 : decode cX8_fitsFrom 21 = .ok (.aload_n 1, 1) := by decide +kernel
theorem dX8_fitsFrom_22 : decode cX8_fitsFrom 22 = .ok (.iload_n 2, 1) := by decide +kernel
theorem dX8_fitsFrom_23 : decode cX8_fitsFrom 23 = .ok (.aload_n 0, 1) := by decide +kernel
theorem dX8_fitsFrom_24 : decode cX8_fitsFrom 24 = .ok (.getfield 100, 3) := by decide +kernel
theorem dX8_fitsFrom_27 : decode cX8_fitsFrom 27 = .ok (.invokevirtual 125, 3) := by decide +kernel
theorem dX8_fitsFrom_30 : decode cX8_fitsFrom 30 = .ok (.ifCond .ne 40, 3) := by decide +kernel
theorem dX8_fitsFrom_33 : decode cX8_fitsFrom 33 = .ok (.aload_n 0, 1) := by decide +kernel
theorem dX8_fitsFrom_34 : decode cX8_fitsFrom 34 = .ok (.getfield 107, 3) := by decide +kernel
theorem dX8_fitsFrom_37 : decode cX8_fitsFrom 37 = .ok (.iconst (-1), 1) := by decide +kernel
theorem dX8_fitsFrom_38 : decode cX8_fitsFrom 38 = .ok (.if_icmp .eq 14, 3) := by decide +kernel
theorem dX8_fitsFrom_41 : decode cX8_fitsFrom 41 = .ok (.aload_n 0, 1) := by decide +kernel
theorem dX8_fitsFrom_42 : decode cX8_fitsFrom 42 = .ok (.getfield 107, 3) := by decide +kernel
theorem dX8_fitsFrom_45 : decode cX8_fitsFrom 45 = .ok (.iload_n 2, 1) := by decide +kernel
theorem dX8_fitsFrom_46 : decode cX8_fitsFrom 46 = .ok (.bipush 7, 2) := by decide +kernel
theorem dX8_fitsFrom_48 : decode cX8_fitsFrom 48 = .ok (.iand, 1) := by decide +kernel
theorem dX8_fitsFrom_49 : decode cX8_fitsFrom 49 = .ok (.if_icmp .ne 21, 3) := by decide +kernel
theorem dX8_fitsFrom_52 : decode cX8_fitsFrom 52 = .ok (.aload_n 0, 1) := by decide +kernel
theorem dX8_fitsFrom_53 : decode cX8_fitsFrom 53 = .ok (.getfield 110, 3) := by decide +kernel
theorem dX8_fitsFrom_56 : decode cX8_fitsFrom 56 = .ok (.iconst (-1), 1) := by decide +kernel
theorem dX8_fitsFrom_57 : decode cX8_fitsFrom 57 = .ok (.if_icmp .eq 15, 3) := by decide +kernel
theorem dX8_fitsFrom_60 : decode cX8_fitsFrom 60 = .ok (.aload_n 0, 1) := by decide +kernel
theorem dX8_fitsFrom_61 : decode cX8_fitsFrom 61 = .ok (.getfield 110, 3) := by decide +kernel
theorem dX8_fitsFrom_64 : decode cX8_fitsFrom 64 = .ok (.iload_n 2, 1) := by decide +kernel
theorem dX8_fitsFrom_65 : decode cX8_fitsFrom 65 = .ok (.iconst 3, 1) := by decide +kernel
theorem dX8_fitsFrom_66 : decode cX8_fitsFrom 66 = .ok (.ishr, 1) := by decide +kernel
theorem dX8_fitsFrom_67 : decode cX8_fitsFrom 67 = .ok (.if_icmp .eq 5, 3) := by decide +kernel
theorem dX8_fitsFrom_70 : decode cX8_fitsFrom 70 = .ok (.iconst 0, 1) := by decide +kernel
theorem dX8_fitsFrom_71 : decode cX8_fitsFrom 71 = .ok (.ireturn, 1) := by decide +kernel
theorem dX8_fitsFrom_72 : decode cX8_fitsFrom 72 = .ok (.aload_n 1, 1) := by decide +kernel
theorem dX8_fitsFrom_73 : decode cX8_fitsFrom 73 = .ok (.iload_n 2, 1) := by decide +kernel
theorem dX8_fitsFrom_74 : decode cX8_fitsFrom 74 = .ok (.aload_n 0, 1) := by decide +kernel
theorem dX8_fitsFrom_75 : decode cX8_fitsFrom 75 = .ok (.getfield 100, 3) := by decide +kernel
theorem dX8_fitsFrom_78 : decode cX8_fitsFrom 78 = .ok (.invokevirtual 141, 3) := by decide +kernel
theorem dX8_fitsFrom_81 : decode cX8_fitsFrom 81 = .ok (.istore_n 3, 1) := by decide +kernel
theorem dX8_fitsFrom_82 : decode cX8_fitsFrom 82 = .ok (.aload_n 0, 1) := by decide +kernel
theorem dX8_fitsFrom_83 : decode cX8_fitsFrom 83 = .ok (.getfield 93, 3) := by decide +kernel
theorem dX8_fitsFrom_86 : decode cX8_fitsFrom 86 = .ok (.iconst 1, 1) := by decide +kernel
theorem dX8_fitsFrom_87 : decode cX8_fitsFrom 87 = .ok (.if_icmp .ne 17, 3) := by decide +kernel
theorem dX8_fitsFrom_90 : decode cX8_fitsFrom 90 = .ok (.iload_n 3, 1) := by decide +kernel
theorem dX8_fitsFrom_91 : decode cX8_fitsFrom 91 = .ok (.ifCond .eq 13, 3) := by decide +kernel
theorem dX8_fitsFrom_94 : decode cX8_fitsFrom 94 = .ok (.aload_n 0, 1) := by decide +kernel
theorem dX8_fitsFrom_95 : decode cX8_fitsFrom 95 = .ok (.getfield 107, 3) := by decide +kernel
theorem dX8_fitsFrom_98 : decode cX8_fitsFrom 98 = .ok (.iconst (-1), 1) := by decide +kernel
theorem dX8_fitsFrom_99 : decode cX8_fitsFrom 99 = .ok (.if_icmp .ne 5, 3) := by decide +kernel
theorem dX8_fitsFrom_102 : decode cX8_fitsFrom 102 = .ok (.iconst 0, 1) := by decide +kernel
theorem dX8_fitsFrom_103 : decode cX8_fitsFrom 103 = .ok (.ireturn, 1) := by decide +kernel
theorem dX8_fitsFrom_104 : decode cX8_fitsFrom 104 = .ok (.aload_n 0, 1) := by decide +kernel
theorem dX8_fitsFrom_105 : decode cX8_fitsFrom 105 = .ok (.getfield 56, 3) := by decide +kernel
theorem dX8_fitsFrom_108 : decode cX8_fitsFrom 108 = .ok (.iconst (-1), 1) := by decide +kernel
theorem dX8_fitsFrom_109 : decode cX8_fitsFrom 109 = .ok (.if_icmp .eq 20, 3) := by decide +kernel
theorem dX8_fitsFrom_112 : decode cX8_fitsFrom 112 = .ok (.iload_n 3, 1) := by decide +kernel
theorem dX8_fitsFrom_113 : decode cX8_fitsFrom 113 = .ok (.aload_n 0, 1) := by decide +kernel
theorem dX8_fitsFrom_114 : decode cX8_fitsFrom 114 = .ok (.getfield 56, 3) := by decide +kernel
theorem dX8_fitsFrom_117 : decode cX8_fitsFrom 117 = .ok (.iconst 1, 1) := by decide +kernel
theorem dX8_fitsFrom_118 : decode cX8_fitsFrom 118 = .ok (.if_icmp .ne 7, 3) := by decide +kernel
theorem dX8_fitsFrom_121 : decode cX8_fitsFrom 121 = .ok (.iconst 1, 1) := by decide +kernel
theorem dX8_fitsFrom_122 : decode cX8_fitsFrom 122 = .ok (.goto 4, 3) := by decide +kernel
theorem dX8_fitsFrom_125 : decode cX8_fitsFrom 125 = .ok (.iconst 0, 1) := by decide +kernel
theorem dX8_fitsFrom_126 : decode cX8_fitsFrom 126 = .ok (.if_icmp .ne 31, 3) := by decide +kernel
theorem dX8_fitsFrom_129 : decode cX8_fitsFrom 129 = .ok (.aload_n 1, 1) := by decide +kernel
theorem dX8_fitsFrom_130 : decode cX8_fitsFrom 130 = .ok (.iload_n 2, 1) := by decide +kernel
theorem dX8_fitsFrom_131 : decode cX8_fitsFrom 131 = .ok (.aload_n 0, 1) := by decide +kernel
theorem dX8_fitsFrom_132 : decode cX8_fitsFrom 132 = .ok (.getfield 100, 3) := by decide +kernel
theorem dX8_fitsFrom_135 : decode cX8_fitsFrom 135 = .ok (.invokevirtual 144, 3) := by decide +kernel
theorem dX8_fitsFrom_138 : decode cX8_fitsFrom 138 = .ok (.aload_n 0, 1) := by decide +kernel
theorem dX8_fitsFrom_139 : decode cX8_fitsFrom 139 = .ok (.getfield 75, 3) := by decide +kernel
theorem dX8_fitsFrom_142 : decode cX8_fitsFrom 142 = .ok (.ifCond .eq 7, 3) := by decide +kernel
theorem dX8_fitsFrom_145 : decode cX8_fitsFrom 145 = .ok (.iconst 1, 1) := by decide +kernel
theorem dX8_fitsFrom_146 : decode cX8_fitsFrom 146 = .ok (.goto 4, 3) := by decide +kernel
theorem dX8_fitsFrom_149 : decode cX8_fitsFrom 149 = .ok (.iconst 0, 1) := by decide +kernel
theorem dX8_fitsFrom_150 : decode cX8_fitsFrom 150 = .ok (.if_icmp .ne 7, 3) := by decide +kernel
theorem dX8_fitsFrom_153 : decode cX8_fitsFrom 153 = .ok (.iconst 1, 1) := by decide +kernel
theorem dX8_fitsFrom_154 : decode cX8_fitsFrom 154 = .ok (.goto 4, 3) := by decide +kernel
theorem dX8_fitsFrom_157 : decode cX8_fitsFrom 157 = .ok (.iconst 0, 1) := by decide +kernel
theorem dX8_fitsFrom_158 : decode cX8_fitsFrom 158 = .ok (.ireturn, 1) := by decide +kernel
end
section
theorem dX9_init_0 : decode cX9_init 0 = .ok (.aload_n 0, 1) := by decide +kernel
theorem dX9_init_1 : decode cX9_init 1 = .ok (.invokespecial 3, 3) := by decide +kernel
theorem dX9_init_4 : decode cX9_init 4 = .ok (.aload_n 0, 1) := by decide +kernel
theorem dX9_init_5 : decode cX9_init 5 = .ok (.new 9, 3) := by decide +kernel
theorem dX9_init_8 : decode cX9_init 8 = .ok (.dup, 1) := by decide +kernel
theorem dX9_init_9 : decode cX9_init 9 = .ok (.invokespecial 11, 3) := by decide +kernel
theorem dX9_init_12 : decode cX9_init 12 = .ok (.putfield 12, 3) := by decide +kernel
theorem dX9_init_15 : decode cX9_init 15 = .ok (.return_, 1) := by decide +kernel
theorem dX9_putSigns_0 : decode cX9_putSigns 0 = .ok (.iload_n 2, 1) := by decide +kernel
theorem dX9_putSigns_1 : decode cX9_putSigns 1 = .ok (.bipush 63, 2) := by decide +kernel
theorem dX9_putSigns_3 : decode cX9_putSigns 3 = .ok (.iand, 1) := by decide +kernel
theorem dX9_putSigns_4 : decode cX9_putSigns 4 = .ok (.istore 4, 2) := by decide +kernel
theorem dX9_putSigns_6 : decode cX9_putSigns 6 = .ok (.iload_n 2, 1) := by decide +kernel
theorem dX9_putSigns_7 : decode cX9_putSigns 7 = .ok (.bipush 6, 2) := by decide +kernel
theorem dX9_putSigns_9 : decode cX9_putSigns 9 = .ok (.ishr, 1) := by decide +kernel
theorem dX9_putSigns_10 : decode cX9_putSigns 10 = .ok (.bipush 63, 2) := by decide +kernel
theorem dX9_putSigns_12 : decode cX9_putSigns 12 = .ok (.iand, 1) := by decide +kernel
theorem dX9_putSigns_13 : decode cX9_putSigns 13 = .ok (.istore 5, 2) := by decide +kernel
theorem dX9_putSigns_15 : decode cX9_putSigns 15 = .ok (.aload_n 1, 1) := by decide +kernel
theorem dX9_putSigns_16 : decode cX9_putSigns 16 = .ok (.iload 4, 2) := by decide +kernel
theorem dX9_putSigns_18 : decode cX9_putSigns 18 = .ok (.iload 5, 2) := by decide +kernel
theorem dX9_putSigns_20 : decode cX9_putSigns 20 = .ok (.invokevirtual 18, 3) := by decide +kernel
theorem dX9_putSigns_23 : decode cX9_putSigns 23 = .ok (.ifCond .eq 24, 3) := by decide +kernel
theorem dX9_putSigns_26 : decode cX9_putSigns 26 = .ok (.aload_n 3, 1) := by decide +kernel
theorem dX9_putSigns_27 : decode cX9_putSigns 27 = .ok (.iload 5, 2) := by decide +kernel
theorem dX9_putSigns_29 : decode cX9_putSigns 29 = .ok (.iload 4, 2) := by decide +kernel
theorem dX9_putSigns_31 : decode cX9_putSigns 31 = .ok (.if_icmp .le 8, 3) := by decide +kernel
theorem dX9_putSigns_34 : decode cX9_putSigns 34 = .ok (.ldc 24, 2) := by decide +kernel
theorem dX9_putSigns_36 : decode cX9_putSigns 36 = .ok (.goto 5, 3) := by decide +kernel
theorem dX9_putSigns_39 : decode cX9_putSigns 39 = .ok (.ldc 26, 2) := by decide +kernel
theorem dX9_putSigns_41 : decode cX9_putSigns 41 = .ok (.invokevirtual 28, 3) := by decide +kernel
theorem dX9_putSigns_44 : decode cX9_putSigns 44 = .ok (.goto 92, 3) := by decide +kernel
theorem dX9_putSigns_47 : decode cX9_putSigns 47 = .ok (.aload_n 1, 1) := by decide +kernel
theorem dX9_putSigns_48 : decode cX9_putSigns 48 = .ok (.iload 4, 2) := by decide +kernel
theorem dX9_putSigns_50 : decode cX9_putSigns 50 = .ok (.iload 5, 2) := by decide +kernel
theorem dX9_putSigns_52 : decode cX9_putSigns 52 = .ok (.invokevirtual 34, 3) := by decide +kernel
theorem dX9_putSigns_55 : decode cX9_putSigns 55 = .ok (.istore 6, 2) := by decide +kernel
theorem dX9_putSigns_57 : decode cX9_putSigns 57 = .ok (.aload_n 1, 1) := by decide +kernel
theorem dX9_putSigns_58 : decode cX9_putSigns 58 = .ok (.iload 4, 2) := by decide +kernel
theorem dX9_putSigns_60 : decode cX9_putSigns 60 = .ok (.invokevirtual 37, 3) := by decide +kernel
theorem dX9_putSigns_63 : decode cX9_putSigns 63 = .ok (.iconst 1, 1) := by decide +kernel
theorem dX9_putSigns_64 : decode cX9_putSigns 64 = .ok (.if_icmp .eq 29, 3) := by decide +kernel
theorem dX9_putSigns_67 : decode cX9_putSigns 67 = .ok (.aload_n 3, 1) := by decide +kernel
theorem dX9_putSigns_68 : decode cX9_putSigns 68 = .ok (.aload_n 1, 1) := by decide +kernel
theorem dX9_putSigns_69 : decode cX9_putSigns 69 = .ok (.iload 4, 2) := by decide +kernel
theorem dX9_putSigns_71 : decode cX9_putSigns 71 = .ok (.invokevirtual 37, 3) := by decide +kernel
theorem dX9_putSigns_74 : decode cX9_putSigns 74 = .ok (.invokestatic 41, 3) := by decide +kernel
theorem dX9_putSigns_77 : decode cX9_putSigns 77 = .ok (.invokevirtual 45, 3) := by decide +kernel
theorem dX9_putSigns_80 : decode cX9_putSigns 80 = .ok (.aload_n 0, 1) := by decide +kernel
theorem dX9_putSigns_81 : decode cX9_putSigns 81 = .ok (.aload_n 1, 1) := by decide +kernel
theorem dX9_putSigns_82 : decode cX9_putSigns 82 = .ok (.iload 4, 2) := by decide +kernel
theorem dX9_putSigns_84 : decode cX9_putSigns 84 = .ok (.iload 5, 2) := by decide +kernel
theorem dX9_putSigns_86 : decode cX9_putSigns 86 = .ok (.aload_n 3, 1) := by decide +kernel
theorem dX9_putSigns_87 : decode cX9_putSigns 87 = .ok (.invokevirtual 49, 3) := by decide +kernel
theorem dX9_putSigns_90 : decode cX9_putSigns 90 = .ok (.goto 17, 3) := by decide +kernel
theorem dX9_putSigns_93 : decode cX9_putSigns 93 = .ok (.iload 6, 2) := by decide +kernel
theorem dX9_putSigns_95 : decode cX9_putSigns 95 = .ok (.ifCond .eq 12, 3) := by decide +kernel
theorem dX9_putSigns_98 : decode cX9_putSigns 98 = .ok (.aload_n 3, 1) := by decide +kernel
theorem dX9_putSigns_99 : decode cX9_putSigns 99 = .ok (.iload 4, 2) := by decide +kernel
theorem dX9_putSigns_101 : decode cX9_putSigns 101 = .ok (.invokestatic 53, 3) := by decide +kernel
theorem dX9_putSigns_104 : decode cX9_putSigns 104 = .ok (.invokevirtual 45, 3) := by decide +kernel
theorem dX9_putSigns_107 : decode cX9_putSigns 107 = .ok (.iload 6, 2) := by decide +kernel
theorem dX9_putSigns_109 : decode cX9_putSigns 109 = .ok (.ifCond .eq 9, 3) := by decide +kernel
theorem dX9_putSigns_112 : decode cX9_putSigns 112 = .ok (.aload_n 3, 1) := by decide +kernel
theorem dX9_putSigns_113 : decode cX9_putSigns 113 = .ok (.bipush 120, 2) := by decide +kernel
theorem dX9_putSigns_115 : decode cX9_putSigns 115 = .ok (.invokevirtual 45, 3) := by decide +kernel
theorem dX9_putSigns_118 : decode cX9_putSigns 118 = .ok (.aload_n 3, 1) := by decide +kernel
theorem dX9_putSigns_119 : decode cX9_putSigns 119 = .ok (.iload 5, 2) := by decide +kernel
theorem dX9_putSigns_121 : decode cX9_putSigns 121 = .ok (.invokestatic 53, 3) := by decide +kernel
theorem dX9_putSigns_124 : decode cX9_putSigns 124 = .ok (.invokevirtual 45, 3) := by decide +kernel
theorem dX9_putSigns_127 : decode cX9_putSigns 127 = .ok (.aload_n 3, 1) := by decide +kernel
theorem dX9_putSigns_128 : decode cX9_putSigns 128 = .ok (.iload 5, 2) := by decide +kernel
theorem dX9_putSigns_130 : decode cX9_putSigns 130 = .ok (.invokestatic 56, 3) := by decide +kernel
theorem dX9_putSigns_133 : decode cX9_putSigns 133 = .ok (.invokevirtual 45, 3) := by decide +kernel
theorem dX9_putSigns_136 : decode cX9_putSigns 136 = .ok (.iload_n 2, 1) := by decide +kernel
theorem dX9_putSigns_137 : decode cX9_putSigns 137 = .ok (.sipush 4096, 3) := by decide +kernel
theorem dX9_putSigns_140 : decode cX9_putSigns 140 = .ok (.if_icmp .lt 20, 3) := by decide +kernel
theorem dX9_putSigns_143 : decode cX9_putSigns 143 = .ok (.aload_n 3, 1) := by decide +kernel
theorem dX9_putSigns_144 : decode cX9_putSigns 144 = .ok (.bipush 61, 2) := by decide +kernel
theorem dX9_putSigns_146 : decode cX9_putSigns 146 = .ok (.invokevirtual 45, 3) := by decide +kernel
theorem dX9_putSigns_149 : decode cX9_putSigns 149 = .ok (.aload_n 3, 1) := by decide +kernel
theorem dX9_putSigns_150 : decode cX9_putSigns 150 = .ok (.iload_n 2, 1) := by decide +kernel
theorem dX9_putSigns_151 : decode cX9_putSigns 151 = .ok (.bipush 12, 2) := by decide +kernel
theorem dX9_putSigns_153 : decode cX9_putSigns 153 = .ok (.ishr, 1) := by decide +kernel
theorem dX9_putSigns_154 : decode cX9_putSigns 154 = .ok (.invokestatic 41, 3) := by decide +kernel
theorem dX9_putSigns_157 : decode cX9_putSigns 157 = .ok (.invokevirtual 45, 3) := by decide +kernel
theorem dX9_putSigns_160 : decode cX9_putSigns 160 = .ok (.aload_n 0, 1) := by decide +kernel
theorem dX9_putSigns_161 : decode cX9_putSigns 161 = .ok (.getfield 12, 3) := by decide +kernel
theorem dX9_putSigns_164 : decode cX9_putSigns 164 = .ok (.aload_n 1, 1) := by decide +kernel
theorem dX9_putSigns_165 : decode cX9_putSigns 165 = .ok (.iload_n 2, 1) := by decide +kernel
theorem dX9_putSigns_166 : decode cX9_putSigns 166 = .ok (.invokevirtual 59, 3) := by decide +kernel
theorem dX9_putSigns_169 : decode cX9_putSigns 169 = .ok (.istore 6, 2) := by decide +kernel
theorem dX9_putSigns_171 : decode cX9_putSigns 171 = .ok (.iload 6, 2) := by decide +kernel
theorem dX9_putSigns_173 : decode cX9_putSigns 173 = .ok (.ifCond .eq 9, 3) := by decide +kernel
theorem dX9_putSigns_176 : decode cX9_putSigns 176 = .ok (.aload_n 3, 1) := by decide +kernel
theorem dX9_putSigns_177 : decode cX9_putSigns 177 = .ok (.iload 6, 2) := by decide +kernel
theorem dX9_putSigns_179 : decode cX9_putSigns 179 = .ok (.invokevirtual 45, 3) := by decide +kernel
theorem dX9_putSigns_182 : decode cX9_putSigns 182 = .ok (.return_, 1) := by decide +kernel
theorem dX9_putApart_0 : decode cX9_putApart 0 = .ok (.iconst 0, 1) := by decide +kernel
theorem dX9_putApart_1 : decode cX9_putApart 1 = .ok (.istore 5, 2) := by decide +kernel
theorem dX9_putApart_3 : decode cX9_putApart 3 = .ok (.iconst 0, 1) := by decide +kernel
theorem dX9_putApart_4 : decode cX9_putApart 4 = .ok (.istore 6, 2) := by decide +kernel
theorem dX9_putApart_6 : decode cX9_putApart 6 = .ok (.iconst 0, 1) := by decide +kernel
theorem dX9_putApart_7 : decode cX9_putApart 7 = .ok (.istore 7, 2) := by decide +kernel
theorem dX9_putApart_9 : decode cX9_putApart 9 = .ok (.iconst 0, 1) := by decide +kernel
theorem dX9_putApart_10 : decode cX9_putApart 10 = .ok (.istore 8, 2) := by decide +kernel
theorem dX9_putApart_12 : decode cX9_putApart 12 = .ok (.iload 8, 2) := by decide +kernel
theorem dX9_putApart_14 : decode cX9_putApart 14 = .ok (.bipush 64, 2) := by decide +kernel
theorem dX9_putApart_16 : decode cX9_putApart 16 = .ok (.if_icmp .ge 108, 3) := by decide +kernel
theorem dX9_putApart_19 : decode cX9_putApart 19 = .ok (.iload 8, 2) := by decide +kernel
theorem dX9_putApart_21 : decode cX9_putApart 21 = .ok (.iload_n 2, 1) := by decide +kernel
theorem dX9_putApart_22 : decode cX9_putApart 22 = .ok (.if_icmp .eq 96, 3) := by decide +kernel
theorem dX9_putApart_25 : decode cX9_putApart 25 = .ok (.aload_n 1, 1) := by decide +kernel
theorem dX9_putApart_26 : decode cX9_putApart 26 = .ok (.getfield 63, 3) := by decide +kernel
theorem dX9_putApart_29 : decode cX9_putApart 29 = .ok (.iload 8, 2) := by decide +kernel
theorem dX9_putApart_31 : decode cX9_putApart 31 = .ok (.iaload, 1) := by decide +kernel
theorem dX9_putApart_32 : decode cX9_putApart 32 = .ok (.aload_n 1, 1) := by decide +kernel
theorem dX9_putApart_33 : decode cX9_putApart 33 = .ok (.getfield 63, 3) := by decide +kernel
theorem dX9_putApart_36 : decode cX9_putApart 36 = .ok (.iload_n 2, 1) := by decide +kernel
theorem dX9_putApart_37 : decode cX9_putApart 37 = .ok (.iaload, 1) := by decide +kernel
theorem dX9_putApart_38 : decode cX9_putApart 38 = .ok (.if_icmp .ne 80, 3) := by decide +kernel
theorem dX9_putApart_41 : decode cX9_putApart 41 = .ok (.aload_n 1, 1) := by decide +kernel
theorem dX9_putApart_42 : decode cX9_putApart 42 = .ok (.iload 8, 2) := by decide +kernel
theorem dX9_putApart_44 : decode cX9_putApart 44 = .ok (.iload_n 3, 1) := by decide +kernel
theorem dX9_putApart_45 : decode cX9_putApart 45 = .ok (.invokevirtual 67, 3) := by decide +kernel
theorem dX9_putApart_48 : decode cX9_putApart 48 = .ok (.ifCond .eq 70, 3) := by decide +kernel
theorem dX9_putApart_51 : decode cX9_putApart 51 = .ok (.aload_n 0, 1) := by decide +kernel
theorem dX9_putApart_52 : decode cX9_putApart 52 = .ok (.getfield 12, 3) := by decide +kernel
theorem dX9_putApart_55 : decode cX9_putApart 55 = .ok (.aload_n 1, 1) := by decide +kernel
theorem dX9_putApart_56 : decode cX9_putApart 56 = .ok (.iload 8, 2) := by decide +kernel
theorem dX9_putApart_58 : decode cX9_putApart 58 = .ok (.bipush 64, 2) := by decide +kernel
theorem dX9_putApart_60 : decode cX9_putApart 60 = .ok (.iload_n 3, 1) := by decide +kernel
theorem dX9_putApart_61 : decode cX9_putApart 61 = .ok (.imul, 1) := by decide +kernel
theorem dX9_putApart_62 : decode cX9_putApart 62 = .ok (.iadd, 1) := by decide +kernel
theorem dX9_putApart_63 : decode cX9_putApart 63 = .ok (.invokevirtual 70, 3) := by decide +kernel
theorem dX9_putApart_66 : decode cX9_putApart 66 = .ok (.ifCond .eq 52, 3) := by decide +kernel
theorem dX9_putApart_69 : decode cX9_putApart 69 = .ok (.iconst 1, 1) := by decide +kernel
theorem dX9_putApart_70 : decode cX9_putApart 70 = .ok (.istore 5, 2) := by decide +kernel
theorem dX9_putApart_72 : decode cX9_putApart 72 = .ok (.iload 6, 2) := by decide +kernel
theorem dX9_putApart_74 : decode cX9_putApart 74 = .ok (.ifCond .ne 15, 3) := by decide +kernel
theorem dX9_putApart_77 : decode cX9_putApart 77 = .ok (.iload 8, 2) := by decide +kernel
theorem dX9_putApart_79 : decode cX9_putApart 79 = .ok (.bipush 7, 2) := by decide +kernel
theorem dX9_putApart_81 : decode cX9_putApart 81 = .ok (.iand, 1) := by decide +kernel
theorem dX9_putApart_82 : decode cX9_putApart 82 = .ok (.iload_n 2, 1) := by decide +kernel
theorem dX9_putApart_83 : decode cX9_putApart 83 = .ok (.bipush 7, 2) := by decide +kernel
theorem dX9_putApart_85 : decode cX9_putApart 85 = .ok (.iand, 1) := by decide +kernel
theorem dX9_putApart_86 : decode cX9_putApart 86 = .ok (.if_icmp .ne 7, 3) := by decide +kernel
theorem dX9_putApart_89 : decode cX9_putApart 89 = .ok (.iconst 1, 1) := by decide +kernel
theorem dX9_putApart_90 : decode cX9_putApart 90 = .ok (.goto 4, 3) := by decide +kernel
theorem dX9_putApart_93 : decode cX9_putApart 93 = .ok (.iconst 0, 1) := by decide +kernel
theorem dX9_putApart_94 : decode cX9_putApart 94 = .ok (.istore 6, 2) := by decide +kernel
theorem dX9_putApart_96 : decode cX9_putApart 96 = .ok (.iload 7, 2) := by decide +kernel
theorem dX9_putApart_98 : decode cX9_putApart 98 = .ok (.ifCond .ne 13, 3) := by decide +kernel
theorem dX9_putApart_101 : decode cX9_putApart 101 = .ok (.iload 8, 2) := by decide +kernel
theorem dX9_putApart_103 : decode cX9_putApart 103 = .ok (.iconst 3, 1) := by decide +kernel
theorem dX9_putApart_104 : decode cX9_putApart 104 = .ok (.ishr, 1) := by decide +kernel
theorem dX9_putApart_105 : decode cX9_putApart 105 = .ok (.iload_n 2, 1) := by decide +kernel
theorem dX9_putApart_106 : decode cX9_putApart 106 = .ok (.iconst 3, 1) := by decide +kernel
theorem dX9_putApart_107 : decode cX9_putApart 107 = .ok (.ishr, 1) := by decide +kernel
theorem dX9_putApart_108 : decode cX9_putApart 108 = .ok (.if_icmp .ne 7, 3) := by decide +kernel
theorem dX9_putApart_111 : decode cX9_putApart 111 = .ok (.iconst 1, 1) := by decide +kernel
theorem dX9_putApart_112 : decode cX9_putApart 112 = .ok (.goto 4, 3) := by decide +kernel
theorem dX9_putApart_115 : decode cX9_putApart 115 = .ok (.iconst 0, 1) := by decide +kernel
theorem dX9_putApart_116 : decode cX9_putApart 116 = .ok (.istore 7, 2) := by decide +kernel
theorem dX9_putApart_118 : decode cX9_putApart 118 = .ok (.iinc 8 1, 3) := by decide +kernel
theorem dX9_putApart_121 : decode cX9_putApart 121 = .ok (.goto (-109), 3) := by decide +kernel
theorem dX9_putApart_124 : decode cX9_putApart 124 = .ok (.iload 5, 2) := by decide +kernel
theorem dX9_putApart_126 : decode cX9_putApart 126 = .ok (.ifCond .eq 22, 3) := by decide +kernel
theorem dX9_putApart_129 : decode cX9_putApart 129 = .ok (.iload 6, 2) := by decide +kernel
theorem dX9_putApart_131 : decode cX9_putApart 131 = .ok (.ifCond .eq 8, 3) := by decide +kernel
theorem dX9_putApart_134 : decode cX9_putApart 134 = .ok (.iload 7, 2) := by decide +kernel
theorem dX9_putApart_136 : decode cX9_putApart 136 = .ok (.ifCond .eq 12, 3) := by decide +kernel
theorem dX9_putApart_139 : decode cX9_putApart 139 = .ok (.aload 4, 2) := by decide +kernel
theorem dX9_putApart_141 : decode cX9_putApart 141 = .ok (.iload_n 2, 1) := by decide +kernel
theorem dX9_putApart_142 : decode cX9_putApart 142 = .ok (.invokestatic 53, 3) := by decide +kernel
theorem dX9_putApart_145 : decode cX9_putApart 145 = .ok (.invokevirtual 45, 3) := by decide +kernel
theorem dX9_putApart_148 : decode cX9_putApart 148 = .ok (.iload 6, 2) := by decide +kernel
theorem dX9_putApart_150 : decode cX9_putApart 150 = .ok (.ifCond .eq 12, 3) := by decide +kernel
theorem dX9_putApart_153 : decode cX9_putApart 153 = .ok (.aload 4, 2) := by decide +kernel
theorem dX9_putApart_155 : decode cX9_putApart 155 = .ok (.iload_n 2, 1) := by decide +kernel
theorem dX9_putApart_156 : decode cX9_putApart 156 = .ok (.invokestatic 56, 3) := by decide +kernel
theorem dX9_putApart_159 : decode cX9_putApart 159 = .ok (.invokevirtual 45, 3) := by decide +kernel
theorem dX9_putApart_162 : decode cX9_putApart 162 = .ok (.return_, 1) := by decide +kernel
theorem dX10_init_0 : decode cX10_init 0 = .ok (.aload_n 0, 1) := by decide +kernel
theorem dX10_init_1 : decode cX10_init 1 = .ok (.invokespecial 1, 3) := by decide +kernel
theorem dX10_init_4 : decode cX10_init 4 = .ok (.aload_n 0, 1) := by decide +kernel
theorem dX10_init_5 : decode cX10_init 5 = .ok (.new 7, 3) := by decide +kernel
theorem dX10_init_8 : decode cX10_init 8 = .ok (.dup, 1) := by decide +kernel
theorem dX10_init_9 : decode cX10_init 9 = .ok (.invokespecial 9, 3) := by decide +kernel
theorem dX10_init_12 : decode cX10_init 12 = .ok (.putfield 10, 3) := by decide +kernel
theorem dX10_init_15 : decode cX10_init 15 = .ok (.aload_n 0, 1) := by decide +kernel
theorem dX10_init_16 : decode cX10_init 16 = .ok (.new 7, 3) := by decide +kernel
theorem dX10_init_19 : decode cX10_init 19 = .ok (.dup, 1) := by decide +kernel
theorem dX10_init_20 : decode cX10_init 20 = .ok (.invokespecial 9, 3) := by decide +kernel
theorem dX10_init_23 : decode cX10_init 23 = .ok (.putfield 16, 3) := by decide +kernel
theorem dX10_init_26 : decode cX10_init 26 = .ok (.return_, 1) := by decide +kernel
theorem dX11_init_0 : decode cX11_init 0 = .ok (.aload_n 0, 1) := by decide +kernel
theorem dX11_init_1 : decode cX11_init 1 = .ok (.invokespecial 1, 3) := by decide +kernel
theorem dX11_init_4 : decode cX11_init 4 = .ok (.aload_n 0, 1) := by decide +kernel
theorem dX11_init_5 : decode cX11_init 5 = .ok (.new 7, 3) := by decide +kernel
theorem dX11_init_8 : decode cX11_init 8 = .ok (.dup, 1) := by decide +kernel
theorem dX11_init_9 : decode cX11_init 9 = .ok (.invokespecial 9, 3) := by decide +kernel
theorem dX11_init_12 : decode cX11_init 12 = .ok (.putfield 10, 3) := by decide +kernel
theorem dX11_init_15 : decode cX11_init 15 = .ok (.aload_n 0, 1) := by decide +kernel
theorem dX11_init_16 : decode cX11_init 16 = .ok (.new 7, 3) := by decide +kernel
theorem dX11_init_19 : decode cX11_init 19 = .ok (.dup, 1) := by decide +kernel
theorem dX11_init_20 : decode cX11_init 20 = .ok (.invokespecial 9, 3) := by decide +kernel
theorem dX11_init_23 : decode cX11_init 23 = .ok (.putfield 16, 3) := by decide +kernel
theorem dX11_init_26 : decode cX11_init 26 = .ok (.aload_n 0, 1) := by decide +kernel
theorem dX11_init_27 : decode cX11_init 27 = .ok (.new 19, 3) := by decide +kernel
theorem dX11_init_30 : decode cX11_init 30 = .ok (.dup, 1) := by decide +kernel
theorem dX11_init_31 : decode cX11_init 31 = .ok (.invokespecial 21, 3) := by decide +kernel
theorem dX11_init_34 : decode cX11_init 34 = .ok (.putfield 22, 3) := by decide +kernel
theorem dX11_init_37 : decode cX11_init 37 = .ok (.aload_n 0, 1) := by decide +kernel
theorem dX11_init_38 : decode cX11_init 38 = .ok (.new 26, 3) := by decide +kernel
theorem dX11_init_41 : decode cX11_init 41 = .ok (.dup, 1) := by decide +kernel
theorem dX11_init_42 : decode cX11_init 42 = .ok (.invokespecial 28, 3) := by decide +kernel
theorem dX11_init_45 : decode cX11_init 45 = .ok (.putfield 29, 3) := by decide +kernel
theorem dX11_init_48 : decode cX11_init 48 = .ok (.aload_n 0, 1) := by decide +kernel
theorem dX11_init_49 : decode cX11_init 49 = .ok (.new 33, 3) := by decide +kernel
theorem dX11_init_52 : decode cX11_init 52 = .ok (.dup, 1) := by decide +kernel
theorem dX11_init_53 : decode cX11_init 53 = .ok (.invokespecial 35, 3) := by decide +kernel
theorem dX11_init_56 : decode cX11_init 56 = .ok (.putfield 36, 3) := by decide +kernel
theorem dX11_init_59 : decode cX11_init 59 = .ok (.aload_n 0, 1) := by decide +kernel
theorem dX11_init_60 : decode cX11_init 60 = .ok (.new 40, 3) := by decide +kernel
theorem dX11_init_63 : decode cX11_init 63 = .ok (.dup, 1) := by decide +kernel
theorem dX11_init_64 : decode cX11_init 64 = .ok (.invokespecial 42, 3) := by decide +kernel
theorem dX11_init_67 : decode cX11_init 67 = .ok (.putfield 43, 3) := by decide +kernel
theorem dX11_init_70 : decode cX11_init 70 = .ok (.aload_n 0, 1) := by decide +kernel
theorem dX11_init_71 : decode cX11_init 71 = .ok (.new 47, 3) := by decide +kernel
theorem dX11_init_74 : decode cX11_init 74 = .ok (.dup, 1) := by decide +kernel
theorem dX11_init_75 : decode cX11_init 75 = .ok (.invokespecial 49, 3) := by decide +kernel
theorem dX11_init_78 : decode cX11_init 78 = .ok (.putfield 50, 3) := by decide +kernel
theorem dX11_init_81 : decode cX11_init 81 = .ok (.aload_n 0, 1) := by decide +kernel
theorem dX11_init_82 : decode cX11_init 82 = .ok (.new 54, 3) := by decide +kernel
theorem dX11_init_85 : decode cX11_init 85 = .ok (.dup, 1) := by decide +kernel
theorem dX11_init_86 : decode cX11_init 86 = .ok (.invokespecial 56, 3) := by decide +kernel
theorem dX11_init_89 : decode cX11_init 89 = .ok (.putfield 57, 3) := by decide +kernel
theorem dX11_init_92 : decode cX11_init 92 = .ok (.aload_n 0, 1) := by decide +kernel
theorem dX11_init_93 : decode cX11_init 93 = .ok (.iconst 0, 1) := by decide +kernel
theorem dX11_init_94 : decode cX11_init 94 = .ok (.putfield 61, 3) := by decide +kernel
theorem dX11_init_97 : decode cX11_init 97 = .ok (.aload_n 0, 1) := by decide +kernel
theorem dX11_init_98 : decode cX11_init 98 = .ok (.new 65, 3) := by decide +kernel
theorem dX11_init_101 : decode cX11_init 101 = .ok (.dup, 1) := by decide +kernel
theorem dX11_init_102 : decode cX11_init 102 = .ok (.invokespecial 67, 3) := by decide +kernel
theorem dX11_init_105 : decode cX11_init 105 = .ok (.putfield 68, 3) := by decide +kernel
theorem dX11_init_108 : decode cX11_init 108 = .ok (.aload_n 0, 1) := by decide +kernel
theorem dX11_init_109 : decode cX11_init 109 = .ok (.getfield 68, 3) := by decide +kernel
theorem dX11_init_112 : decode cX11_init 112 = .ok (.invokevirtual 72, 3) := by decide +kernel
theorem dX11_init_115 : decode cX11_init 115 = .ok (.return_, 1) := by decide +kernel
theorem dX11_type_0 : decode cX11_type 0 = .ok (.iload_n 3, 1) := by decide +kernel
theorem dX11_type_1 : decode cX11_type 1 = .ok (.iconst 1, 1) := by decide +kernel
theorem dX11_type_2 : decode cX11_type 2 = .ok (.if_icmp .lt 24, 3) := by decide +kernel
theorem dX11_type_5 : decode cX11_type 5 = .ok (.iload_n 3, 1) := by decide +kernel
theorem dX11_type_6 : decode cX11_type 6 = .ok (.bipush 8, 2) := by decide +kernel
theorem dX11_type_8 : decode cX11_type 8 = .ok (.if_icmp .gt 18, 3) := by decide +kernel
theorem dX11_type_11 : decode cX11_type 11 = .ok (.aload_n 0, 1) := by decide +kernel
theorem dX11_type_12 : decode cX11_type 12 = .ok (.getfield 10, 3) := by decide +kernel
theorem dX11_type_15 : decode cX11_type 15 = .ok (.invokevirtual 75, 3) := by decide +kernel
theorem dX11_type_18 : decode cX11_type 18 = .ok (.iload_n 3, 1) := by decide +kernel
theorem dX11_type_19 : decode cX11_type 19 = .ok (.iadd, 1) := by decide +kernel
theorem dX11_type_20 : decode cX11_type 20 = .ok (.sipush 2000, 3) := by decide +kernel
theorem dX11_type_23 : decode cX11_type 23 = .ok (.if_icmp .le 5, 3) := by decide +kernel
theorem dX11_type_26 : decode cX11_type 26 = .ok (.iconst 0, 1) := by decide +kernel
theorem dX11_type_27 : decode cX11_type 27 = .ok (.ireturn, 1) := by decide +kernel
theorem dX11_type_28 : decode cX11_type 28 = .ok (.iconst 0, 1) := by decide +kernel
theorem dX11_type_29 : decode cX11_type 29 = .ok (.istore 4, 2) := by decide +kernel
theorem dX11_type_31 : decode cX11_type 31 = .ok (.iload 4, 2) := by decide +kernel
theorem dX11_type_33 : decode cX11_type 33 = .ok (.iload_n 3, 1) := by decide +kernel
theorem dX11_type_34 : decode cX11_type 34 = .ok (.if_icmp .ge 40, 3) := by decide +kernel
theorem dX11_type_37 : decode cX11_type 37 = .ok (.lload_n 1, 1) := by decide +kernel
theorem dX11_type_38 : decode cX11_type 38 = .ok (.iload 4, 2) := by decide +kernel
theorem dX11_type_40 : decode cX11_type 40 = .ok (.invokestatic 79, 3) := by decide +kernel
theorem dX11_type_43 : decode cX11_type 43 = .ok (.istore 5, 2) := by decide +kernel
theorem dX11_type_45 : decode cX11_type 45 = .ok (.iload 5, 2) := by decide +kernel
theorem dX11_type_47 : decode cX11_type 47 = .ok (.bipush 10, 2) := by decide +kernel
theorem dX11_type_49 : decode cX11_type 49 = .ok (.if_icmp .eq 19, 3) := by decide +kernel
theorem dX11_type_52 : decode cX11_type 52 = .ok (.iload 5, 2) := by decide +kernel
theorem dX11_type_54 : decode cX11_type 54 = .ok (.bipush 32, 2) := by decide +kernel
theorem dX11_type_56 : decode cX11_type 56 = .ok (.if_icmp .lt 10, 3) := by decide +kernel
theorem dX11_type_59 : decode cX11_type 59 = .ok (.iload 5, 2) := by decide +kernel
theorem dX11_type_61 : decode cX11_type 61 = .ok (.bipush 126, 2) := by decide +kernel
theorem dX11_type_63 : decode cX11_type 63 = .ok (.if_icmp .le 5, 3) := by decide +kernel
theorem dX11_type_66 : decode cX11_type 66 = .ok (.iconst 0, 1) := by decide +kernel
theorem dX11_type_67 : decode cX11_type 67 = .ok (.ireturn, 1) := by decide +kernel
theorem dX11_type_68 : decode cX11_type 68 = .ok (.iinc 4 1, 3) := by decide +kernel
theorem dX11_type_71 : decode cX11_type 71 = .ok (.goto (-40), 3) := by decide +kernel
theorem dX11_type_74 : decode cX11_type 74 = .ok (.iconst 0, 1) := by decide +kernel
theorem dX11_type_75 : decode cX11_type 75 = .ok (.istore 4, 2) := by decide +kernel
theorem dX11_type_77 : decode cX11_type 77 = .ok (.iload 4, 2) := by decide +kernel
theorem dX11_type_79 : decode cX11_type 79 = .ok (.iload_n 3, 1) := by decide +kernel
theorem dX11_type_80 : decode cX11_type 80 = .ok (.if_icmp .ge 22, 3) := by decide +kernel
theorem dX11_type_83 : decode cX11_type 83 = .ok (.aload_n 0, 1) := by decide +kernel
theorem dX11_type_84 : decode cX11_type 84 = .ok (.getfield 10, 3) := by decide +kernel
theorem dX11_type_87 : decode cX11_type 87 = .ok (.lload_n 1, 1) := by decide +kernel
theorem dX11_type_88 : decode cX11_type 88 = .ok (.iload 4, 2) := by decide +kernel
theorem dX11_type_90 : decode cX11_type 90 = .ok (.invokestatic 79, 3) := by decide +kernel
theorem dX11_type_93 : decode cX11_type 93 = .ok (.invokevirtual 83, 3) := by decide +kernel
theorem dX11_type_96 : decode cX11_type 96 = .ok (.iinc 4 1, 3) := by decide +kernel
theorem dX11_type_99 : decode cX11_type 99 = .ok (.goto (-22), 3) := by decide +kernel
theorem dX11_type_102 : decode cX11_type 102 = .ok (.iconst 1, 1) := by decide +kernel
theorem dX11_type_103 : decode cX11_type 103 = .ok (.ireturn, 1) := by decide +kernel
theorem dX11_cut_0 : decode cX11_cut 0 = .ok (.iload_n 1, 1) := by decide +kernel
theorem dX11_cut_1 : decode cX11_cut 1 = .ok (.ifCond .lt 14, 3) := by decide +kernel
theorem dX11_cut_4 : decode cX11_cut 4 = .ok (.iload_n 1, 1) := by decide +kernel
theorem dX11_cut_5 : decode cX11_cut 5 = .ok (.aload_n 0, 1) := by decide +kernel
theorem dX11_cut_6 : decode cX11_cut 6 = .ok (.getfield 10, 3) := by decide +kernel
theorem dX11_cut_9 : decode cX11_cut 9 = .ok (.invokevirtual 75, 3) := by decide +kernel
theorem dX11_cut_12 : decode cX11_cut 12 = .ok (.if_icmp .le 5, 3) := by decide +kernel
theorem dX11_cut_15 : decode cX11_cut 15 = .ok (.iconst 0, 1) := by decide +kernel
theorem dX11_cut_16 : decode cX11_cut 16 = .ok (.ireturn, 1) := by decide +kernel
theorem dX11_cut_17 : decode cX11_cut 17 = .ok (.aload_n 0, 1) := by decide +kernel
theorem dX11_cut_18 : decode cX11_cut 18 = .ok (.getfield 10, 3) := by decide +kernel
theorem dX11_cut_21 : decode cX11_cut 21 = .ok (.iload_n 1, 1) := by decide +kernel
theorem dX11_cut_22 : decode cX11_cut 22 = .ok (.invokevirtual 87, 3) := by decide +kernel
theorem dX11_cut_25 : decode cX11_cut 25 = .ok (.iconst 1, 1) := by decide +kernel
theorem dX11_cut_26 : decode cX11_cut 26 = .ok (.ireturn, 1) := by decide +kernel
theorem dX11_read_0 : decode cX11_read 0 = .ok (.aload_n 0, 1) := by decide +kernel
theorem dX11_read_1 : decode cX11_read 1 = .ok (.getfield 43, 3) := by decide +kernel
theorem dX11_read_4 : decode cX11_read 4 = .ok (.aload_n 0, 1) := by decide +kernel
theorem dX11_read_5 : decode cX11_read 5 = .ok (.getfield 10, 3) := by decide +kernel
theorem dX11_read_8 : decode cX11_read 8 = .ok (.invokevirtual 91, 3) := by decide +kernel
theorem dX11_read_11 : decode cX11_read 11 = .ok (.aload_n 0, 1) := by decide +kernel
theorem dX11_read_12 : decode cX11_read 12 = .ok (.getfield 43, 3) := by decide +kernel
theorem dX11_read_15 : decode cX11_read 15 = .ok (.invokevirtual 95, 3) := by decide +kernel
theorem dX11_read_18 : decode cX11_read 18 = .ok (.ifCond .eq 23, 3) := by decide +kernel
theorem dX11_read_21 : decode cX11_read 21 = .ok (.aload_n 0, 1) := by decide +kernel
theorem dX11_read_22 : decode cX11_read 22 = .ok (.getfield 43, 3) := by decide +kernel
theorem dX11_read_25 : decode cX11_read 25 = .ok (.invokevirtual 99, 3) := by decide +kernel
theorem dX11_read_28 : decode cX11_read 28 = .ok (.ifCond .eq 13, 3) := by decide +kernel
theorem dX11_read_31 : decode cX11_read 31 = .ok (.aload_n 0, 1) := by decide +kernel
theorem dX11_read_32 : decode cX11_read 32 = .ok (.getfield 43, 3) := by decide +kernel
theorem dX11_read_35 : decode cX11_read 35 = .ok (.invokevirtual 102, 3) := by decide +kernel
theorem dX11_read_38 : decode cX11_read 38 = .ok (.ifCond .ne 11, 3) := by decide +kernel
theorem dX11_read_41 : decode cX11_read 41 = .ok (.aload_n 0, 1) := by decide +kernel
theorem dX11_read_42 : decode cX11_read 42 = .ok (.getfield 43, 3) := by decide +kernel
theorem dX11_read_45 : decode cX11_read 45 = .ok (.invokevirtual 105, 3) := by decide +kernel
theorem dX11_read_48 : decode cX11_read 48 = .ok (.ireturn, 1) := by decide +kernel
theorem dX11_read_49 : decode cX11_read 49 = .ok (.aload_n 0, 1) := by decide +kernel
theorem dX11_read_50 : decode cX11_read 50 = .ok (.aload_n 0, 1) := by decide +kernel
theorem dX11_read_51 : decode cX11_read 51 = .ok (.getfield 43, 3) := by decide +kernel
theorem dX11_read_54 : decode cX11_read 54 = .ok (.aload_n 0, 1) := by decide +kernel
theorem dX11_read_55 : decode cX11_read 55 = .ok (.getfield 57, 3) := by decide +kernel
theorem dX11_read_58 : decode cX11_read 58 = .ok (.invokevirtual 108, 3) := by decide +kernel
theorem dX11_read_61 : decode cX11_read 61 = .ok (.putfield 57, 3) := by decide +kernel
theorem dX11_read_64 : decode cX11_read 64 = .ok (.aload_n 0, 1) := by decide +kernel
theorem dX11_read_65 : decode cX11_read 65 = .ok (.getfield 10, 3) := by decide +kernel
theorem dX11_read_68 : decode cX11_read 68 = .ok (.iconst 0, 1) := by decide +kernel
theorem dX11_read_69 : decode cX11_read 69 = .ok (.invokevirtual 87, 3) := by decide +kernel
theorem dX11_read_72 : decode cX11_read 72 = .ok (.aload_n 0, 1) := by decide +kernel
theorem dX11_read_73 : decode cX11_read 73 = .ok (.iconst 0, 1) := by decide +kernel
theorem dX11_read_74 : decode cX11_read 74 = .ok (.putfield 61, 3) := by decide +kernel
theorem dX11_read_77 : decode cX11_read 77 = .ok (.aload_n 0, 1) := by decide +kernel
theorem dX11_read_78 : decode cX11_read 78 = .ok (.getfield 57, 3) := by decide +kernel
theorem dX11_read_81 : decode cX11_read 81 = .ok (.iconst 0, 1) := by decide +kernel
theorem dX11_read_82 : decode cX11_read 82 = .ok (.aload_n 0, 1) := by decide +kernel
theorem dX11_read_83 : decode cX11_read 83 = .ok (.getfield 68, 3) := by decide +kernel
theorem dX11_read_86 : decode cX11_read 86 = .ok (.invokevirtual 112, 3) := by decide +kernel
theorem dX11_read_89 : decode cX11_read 89 = .ok (.iconst 0, 1) := by decide +kernel
theorem dX11_read_90 : decode cX11_read 90 = .ok (.ireturn, 1) := by decide +kernel
theorem dX11_find_0 : decode cX11_find 0 = .ok (.aload_n 0, 1) := by decide +kernel
theorem dX11_find_1 : decode cX11_find 1 = .ok (.getfield 29, 3) := by decide +kernel
theorem dX11_find_4 : decode cX11_find 4 = .ok (.aload_n 0, 1) := by decide +kernel
theorem dX11_find_5 : decode cX11_find 5 = .ok (.getfield 68, 3) := by decide +kernel
theorem dX11_find_8 : decode cX11_find 8 = .ok (.aload_n 0, 1) := by decide +kernel
theorem dX11_find_9 : decode cX11_find 9 = .ok (.getfield 10, 3) := by decide +kernel
theorem dX11_find_12 : decode cX11_find 12 = .ok (.iconst 0, 1) := by decide +kernel
theorem dX11_find_13 : decode cX11_find 13 = .ok (.aload_n 0, 1) := by decide +kernel
theorem dX11_find_14 : decode cX11_find 14 = .ok (.getfield 10, 3) := by decide +kernel
theorem dX11_find_17 : decode cX11_find 17 = .ok (.invokevirtual 75, 3) := by decide +kernel
theorem dX11_find_20 : decode cX11_find 20 = .ok (.invokevirtual 116, 3) := by decide +kernel
theorem dX11_find_23 : decode cX11_find 23 = .ok (.ireturn, 1) := by decide +kernel
theorem dX11_write_0 : decode cX11_write 0 = .ok (.aload_n 0, 1) := by decide +kernel
theorem dX11_write_1 : decode cX11_write 1 = .ok (.getfield 16, 3) := by decide +kernel
theorem dX11_write_4 : decode cX11_write 4 = .ok (.iconst 0, 1) := by decide +kernel
theorem dX11_write_5 : decode cX11_write 5 = .ok (.invokevirtual 87, 3) := by decide +kernel
theorem dX11_write_8 : decode cX11_write 8 = .ok (.aload_n 0, 1) := by decide +kernel
theorem dX11_write_9 : decode cX11_write 9 = .ok (.getfield 50, 3) := by decide +kernel
theorem dX11_write_12 : decode cX11_write 12 = .ok (.aload_n 0, 1) := by decide +kernel
theorem dX11_write_13 : decode cX11_write 13 = .ok (.getfield 57, 3) := by decide +kernel
theorem dX11_write_16 : decode cX11_write 16 = .ok (.aload_n 0, 1) := by decide +kernel
theorem dX11_write_17 : decode cX11_write 17 = .ok (.getfield 16, 3) := by decide +kernel
theorem dX11_write_20 : decode cX11_write 20 = .ok (.invokevirtual 120, 3) := by decide +kernel
theorem dX11_write_23 : decode cX11_write 23 = .ok (.aload_n 0, 1) := by decide +kernel
theorem dX11_write_24 : decode cX11_write 24 = .ok (.getfield 50, 3) := by decide +kernel
theorem dX11_write_27 : decode cX11_write 27 = .ok (.aload_n 0, 1) := by decide +kernel
theorem dX11_write_28 : decode cX11_write 28 = .ok (.getfield 57, 3) := by decide +kernel
theorem dX11_write_31 : decode cX11_write 31 = .ok (.aload_n 0, 1) := by decide +kernel
theorem dX11_write_32 : decode cX11_write 32 = .ok (.getfield 57, 3) := by decide +kernel
theorem dX11_write_35 : decode cX11_write 35 = .ok (.iconst 0, 1) := by decide +kernel
theorem dX11_write_36 : decode cX11_write 36 = .ok (.invokevirtual 124, 3) := by decide +kernel
theorem dX11_write_39 : decode cX11_write 39 = .ok (.getfield 128, 3) := by decide +kernel
theorem dX11_write_42 : decode cX11_write 42 = .ok (.iconst 0, 1) := by decide +kernel
theorem dX11_write_43 : decode cX11_write 43 = .ok (.aload_n 0, 1) := by decide +kernel
theorem dX11_write_44 : decode cX11_write 44 = .ok (.getfield 16, 3) := by decide +kernel
theorem dX11_write_47 : decode cX11_write 47 = .ok (.invokevirtual 133, 3) := by decide +kernel
theorem dX11_write_50 : decode cX11_write 50 = .ok (.aload_n 0, 1) := by decide +kernel
theorem dX11_write_51 : decode cX11_write 51 = .ok (.getfield 50, 3) := by decide +kernel
theorem dX11_write_54 : decode cX11_write 54 = .ok (.aload_n 0, 1) := by decide +kernel
theorem dX11_write_55 : decode cX11_write 55 = .ok (.getfield 57, 3) := by decide +kernel
theorem dX11_write_58 : decode cX11_write 58 = .ok (.aload_n 0, 1) := by decide +kernel
theorem dX11_write_59 : decode cX11_write 59 = .ok (.getfield 16, 3) := by decide +kernel
theorem dX11_write_62 : decode cX11_write 62 = .ok (.invokevirtual 137, 3) := by decide +kernel
theorem dX11_write_65 : decode cX11_write 65 = .ok (.aload_n 0, 1) := by decide +kernel
theorem dX11_write_66 : decode cX11_write 66 = .ok (.getfield 16, 3) := by decide +kernel
theorem dX11_write_69 : decode cX11_write 69 = .ok (.invokevirtual 75, 3) := by decide +kernel
theorem dX11_write_72 : decode cX11_write 72 = .ok (.ireturn, 1) := by decide +kernel
theorem dX11_signs_0 : decode cX11_signs 0 = .ok (.aload_n 0, 1) := by decide +kernel
theorem dX11_signs_1 : decode cX11_signs 1 = .ok (.getfield 22, 3) := by decide +kernel
theorem dX11_signs_4 : decode cX11_signs 4 = .ok (.aload_n 0, 1) := by decide +kernel
theorem dX11_signs_5 : decode cX11_signs 5 = .ok (.getfield 68, 3) := by decide +kernel
theorem dX11_signs_8 : decode cX11_signs 8 = .ok (.iload_n 1, 1) := by decide +kernel
theorem dX11_signs_9 : decode cX11_signs 9 = .ok (.invokevirtual 140, 3) := by decide +kernel
theorem dX11_signs_12 : decode cX11_signs 12 = .ok (.ifCond .ne 13, 3) := by decide +kernel
theorem dX11_signs_15 : decode cX11_signs 15 = .ok (.new 144, 3) := by decide +kernel
theorem dX11_signs_18 : decode cX11_signs 18 = .ok (.dup, 1) := by decide +kernel
theorem dX11_signs_19 : decode cX11_signs 19 = .ok (.ldc 146, 2) := by decide +kernel
theorem dX11_signs_21 : decode cX11_signs 21 = .ok (.invokespecial 148, 3) := by decide +kernel
theorem dX11_signs_24 : decode cX11_signs 24 = .ok (.athrow, 1) := by decide +kernel
theorem dX11_signs_25 : decode cX11_signs 25 = .ok (.aload_n 0, 1) := by decide +kernel
theorem dX11_signs_26 : decode cX11_signs 26 = .ok (.getfield 16, 3) := by decide +kernel
theorem dX11_signs_29 : decode cX11_signs 29 = .ok (.iconst 0, 1) := by decide +kernel
theorem dX11_signs_30 : decode cX11_signs 30 = .ok (.invokevirtual 87, 3) := by decide +kernel
theorem dX11_signs_33 : decode cX11_signs 33 = .ok (.aload_n 0, 1) := by decide +kernel
theorem dX11_signs_34 : decode cX11_signs 34 = .ok (.getfield 36, 3) := by decide +kernel
theorem dX11_signs_37 : decode cX11_signs 37 = .ok (.aload_n 0, 1) := by decide +kernel
theorem dX11_signs_38 : decode cX11_signs 38 = .ok (.getfield 68, 3) := by decide +kernel
theorem dX11_signs_41 : decode cX11_signs 41 = .ok (.iload_n 1, 1) := by decide +kernel
theorem dX11_signs_42 : decode cX11_signs 42 = .ok (.aload_n 0, 1) := by decide +kernel
theorem dX11_signs_43 : decode cX11_signs 43 = .ok (.getfield 16, 3) := by decide +kernel
theorem dX11_signs_46 : decode cX11_signs 46 = .ok (.invokevirtual 151, 3) := by decide +kernel
theorem dX11_signs_49 : decode cX11_signs 49 = .ok (.aload_n 0, 1) := by decide +kernel
theorem dX11_signs_50 : decode cX11_signs 50 = .ok (.getfield 16, 3) := by decide +kernel
theorem dX11_signs_53 : decode cX11_signs 53 = .ok (.invokevirtual 75, 3) := by decide +kernel
theorem dX11_signs_56 : decode cX11_signs 56 = .ok (.ireturn, 1) := by decide +kernel
theorem dX11_out_0 : decode cX11_out 0 = .ok (.aload_n 0, 1) := by decide +kernel
theorem dX11_out_1 : decode cX11_out 1 = .ok (.getfield 16, 3) := by decide +kernel
theorem dX11_out_4 : decode cX11_out 4 = .ok (.iload_n 1, 1) := by decide +kernel
theorem dX11_out_5 : decode cX11_out 5 = .ok (.invokevirtual 155, 3) := by decide +kernel
theorem dX11_out_8 : decode cX11_out 8 = .ok (.ireturn, 1) := by decide +kernel
theorem dX11_nodes_0 : decode cX11_nodes 0 = .ok (.aload_n 0, 1) := by decide +kernel
theorem dX11_nodes_1 : decode cX11_nodes 1 = .ok (.getfield 57, 3) := by decide +kernel
theorem dX11_nodes_4 : decode cX11_nodes 4 = .ok (.getfield 158, 3) := by decide +kernel
theorem dX11_nodes_7 : decode cX11_nodes 7 = .ok (.ireturn, 1) := by decide +kernel
theorem dX11_node_0 : decode cX11_node 0 = .ok (.aload_n 0, 1) := by decide +kernel
theorem dX11_node_1 : decode cX11_node 1 = .ok (.getfield 57, 3) := by decide +kernel
theorem dX11_node_4 : decode cX11_node 4 = .ok (.iload_n 1, 1) := by decide +kernel
theorem dX11_node_5 : decode cX11_node 5 = .ok (.invokevirtual 161, 3) := by decide +kernel
theorem dX11_node_8 : decode cX11_node 8 = .ok (.ifCond .ne 13, 3) := by decide +kernel
theorem dX11_node_11 : decode cX11_node 11 = .ok (.new 165, 3) := by decide +kernel
theorem dX11_node_14 : decode cX11_node 14 = .ok (.dup, 1) := by decide +kernel
theorem dX11_node_15 : decode cX11_node 15 = .ok (.ldc 167, 2) := by decide +kernel
theorem dX11_node_17 : decode cX11_node 17 = .ok (.invokespecial 169, 3) := by decide +kernel
theorem dX11_node_20 : decode cX11_node 20 = .ok (.athrow, 1) := by decide +kernel
theorem dX11_node_21 : decode cX11_node 21 = .ok (.aload_n 0, 1) := by decide +kernel
theorem dX11_node_22 : decode cX11_node 22 = .ok (.getfield 57, 3) := by decide +kernel
theorem dX11_node_25 : decode cX11_node 25 = .ok (.iload_n 1, 1) := by decide +kernel
theorem dX11_node_26 : decode cX11_node 26 = .ok (.invokevirtual 124, 3) := by decide +kernel
theorem dX11_node_29 : decode cX11_node 29 = .ok (.astore_n 3, 1) := by decide +kernel
theorem dX11_node_30 : decode cX11_node 30 = .ok (.iload_n 2, 1) := by decide +kernel
theorem dX11_node_31 : decode cX11_node 31 = .ok (.tableswitch 70 0 5 #[37, 42, 47, 52, 57, 62], 37) := by decide +kernel
theorem dX11_node_68 : decode cX11_node 68 = .ok (.aload_n 3, 1) := by decide +kernel
theorem dX11_node_69 : decode cX11_node 69 = .ok (.getfield 170, 3) := by decide +kernel
theorem dX11_node_72 : decode cX11_node 72 = .ok (.ireturn, 1) := by decide +kernel
theorem dX11_node_73 : decode cX11_node 73 = .ok (.aload_n 3, 1) := by decide +kernel
theorem dX11_node_74 : decode cX11_node 74 = .ok (.getfield 173, 3) := by decide +kernel
theorem dX11_node_77 : decode cX11_node 77 = .ok (.ireturn, 1) := by decide +kernel
theorem dX11_node_78 : decode cX11_node 78 = .ok (.aload_n 3, 1) := by decide +kernel
theorem dX11_node_79 : decode cX11_node 79 = .ok (.getfield 128, 3) := by decide +kernel
theorem dX11_node_82 : decode cX11_node 82 = .ok (.ireturn, 1) := by decide +kernel
theorem dX11_node_83 : decode cX11_node 83 = .ok (.aload_n 3, 1) := by decide +kernel
theorem dX11_node_84 : decode cX11_node 84 = .ok (.getfield 176, 3) := by decide +kernel
theorem dX11_node_87 : decode cX11_node 87 = .ok (.ireturn, 1) := by decide +kernel
theorem dX11_node_88 : decode cX11_node 88 = .ok (.aload_n 3, 1) := by decide +kernel
theorem dX11_node_89 : decode cX11_node 89 = .ok (.getfield 179, 3) := by decide +kernel
theorem dX11_node_92 : decode cX11_node 92 = .ok (.ireturn, 1) := by decide +kernel
theorem dX11_node_93 : decode cX11_node 93 = .ok (.aload_n 3, 1) := by decide +kernel
theorem dX11_node_94 : decode cX11_node 94 = .ok (.getfield 182, 3) := by decide +kernel
theorem dX11_node_97 : decode cX11_node 97 = .ok (.invokevirtual 75, 3) := by decide +kernel
theorem dX11_node_100 : decode cX11_node 100 = .ok (.ireturn, 1) := by decide +kernel
theorem dX11_node_101 : decode cX11_node 101 = .ok (.new 165, 3) := by decide +kernel
theorem dX11_node_104 : decode cX11_node 104 = .ok (.dup, 1) := by decide +kernel
theorem dX11_node_105 : decode cX11_node 105 = .ok (.ldc 185, 2) := by decide +kernel
theorem dX11_node_107 : decode cX11_node 107 = .ok (.invokespecial 169, 3) := by decide +kernel
theorem dX11_node_110 : decode cX11_node 110 = .ok (.athrow, 1) := by decide +kernel
theorem dX11_mark_0 : decode cX11_mark 0 = .ok (.aload_n 0, 1) := by decide +kernel
theorem dX11_mark_1 : decode cX11_mark 1 = .ok (.getfield 57, 3) := by decide +kernel
theorem dX11_mark_4 : decode cX11_mark 4 = .ok (.iload_n 1, 1) := by decide +kernel
theorem dX11_mark_5 : decode cX11_mark 5 = .ok (.invokevirtual 161, 3) := by decide +kernel
theorem dX11_mark_8 : decode cX11_mark 8 = .ok (.ifCond .eq 22, 3) := by decide +kernel
theorem dX11_mark_11 : decode cX11_mark 11 = .ok (.iload_n 2, 1) := by decide +kernel
theorem dX11_mark_12 : decode cX11_mark 12 = .ok (.ifCond .lt 18, 3) := by decide +kernel
theorem dX11_mark_15 : decode cX11_mark 15 = .ok (.iload_n 2, 1) := by decide +kernel
theorem dX11_mark_16 : decode cX11_mark 16 = .ok (.aload_n 0, 1) := by decide +kernel
theorem dX11_mark_17 : decode cX11_mark 17 = .ok (.getfield 57, 3) := by decide +kernel
theorem dX11_mark_20 : decode cX11_mark 20 = .ok (.iload_n 1, 1) := by decide +kernel
theorem dX11_mark_21 : decode cX11_mark 21 = .ok (.invokevirtual 124, 3) := by decide +kernel
theorem dX11_mark_24 : decode cX11_mark 24 = .ok (.getfield 179, 3) := by decide +kernel
theorem dX11_mark_27 : decode cX11_mark 27 = .ok (.if_icmp .lt 13, 3) := by decide +kernel
theorem dX11_mark_30 : decode cX11_mark 30 = .ok (.new 165, 3) := by decide +kernel
theorem dX11_mark_33 : decode cX11_mark 33 = .ok (.dup, 1) := by decide +kernel
theorem dX11_mark_34 : decode cX11_mark 34 = .ok (.ldc 187, 2) := by decide +kernel
theorem dX11_mark_36 : decode cX11_mark 36 = .ok (.invokespecial 169, 3) := by decide +kernel
theorem dX11_mark_39 : decode cX11_mark 39 = .ok (.athrow, 1) := by decide +kernel
theorem dX11_mark_40 : decode cX11_mark 40 = .ok (.aload_n 0, 1) := by decide +kernel
theorem dX11_mark_41 : decode cX11_mark 41 = .ok (.getfield 57, 3) := by decide +kernel
theorem dX11_mark_44 : decode cX11_mark 44 = .ok (.iload_n 1, 1) := by decide +kernel
theorem dX11_mark_45 : decode cX11_mark 45 = .ok (.invokevirtual 124, 3) := by decide +kernel
theorem dX11_mark_48 : decode cX11_mark 48 = .ok (.iload_n 2, 1) := by decide +kernel
theorem dX11_mark_49 : decode cX11_mark 49 = .ok (.invokevirtual 189, 3) := by decide +kernel
theorem dX11_mark_52 : decode cX11_mark 52 = .ok (.ireturn, 1) := by decide +kernel
theorem dX11_remark_0 : decode cX11_remark 0 = .ok (.aload_n 0, 1) := by decide +kernel
theorem dX11_remark_1 : decode cX11_remark 1 = .ok (.getfield 57, 3) := by decide +kernel
theorem dX11_remark_4 : decode cX11_remark 4 = .ok (.iload_n 1, 1) := by decide +kernel
theorem dX11_remark_5 : decode cX11_remark 5 = .ok (.invokevirtual 161, 3) := by decide +kernel
theorem dX11_remark_8 : decode cX11_remark 8 = .ok (.ifCond .eq 25, 3) := by decide +kernel
theorem dX11_remark_11 : decode cX11_remark 11 = .ok (.iload_n 2, 1) := by decide +kernel
theorem dX11_remark_12 : decode cX11_remark 12 = .ok (.ifCond .lt 21, 3) := by decide +kernel
theorem dX11_remark_15 : decode cX11_remark 15 = .ok (.iload_n 2, 1) := by decide +kernel
theorem dX11_remark_16 : decode cX11_remark 16 = .ok (.aload_n 0, 1) := by decide +kernel
theorem dX11_remark_17 : decode cX11_remark 17 = .ok (.getfield 57, 3) := by decide +kernel
theorem dX11_remark_20 : decode cX11_remark 20 = .ok (.iload_n 1, 1) := by decide +kernel
theorem dX11_remark_21 : decode cX11_remark 21 = .ok (.invokevirtual 124, 3) := by decide +kernel
theorem dX11_remark_24 : decode cX11_remark 24 = .ok (.getfield 182, 3) := by decide +kernel
theorem dX11_remark_27 : decode cX11_remark 27 = .ok (.invokevirtual 75, 3) := by decide +kernel
theorem dX11_remark_30 : decode cX11_remark 30 = .ok (.if_icmp .lt 13, 3) := by decide +kernel
theorem dX11_remark_33 : decode cX11_remark 33 = .ok (.new 165, 3) := by decide +kernel
theorem dX11_remark_36 : decode cX11_remark 36 = .ok (.dup, 1) := by decide +kernel
theorem dX11_remark_37 : decode cX11_remark 37 = .ok (.ldc 193, 2) := by decide +kernel
theorem dX11_remark_39 : decode cX11_remark 39 = .ok (.invokespecial 169, 3) := by decide +kernel
theorem dX11_remark_42 : decode cX11_remark 42 = .ok (.athrow, 1) := by decide +kernel
theorem dX11_remark_43 : decode cX11_remark 43 = .ok (.aload_n 0, 1) := by decide +kernel
theorem dX11_remark_44 : decode cX11_remark 44 = .ok (.getfield 57, 3) := by decide +kernel
theorem dX11_remark_47 : decode cX11_remark 47 = .ok (.iload_n 1, 1) := by decide +kernel
theorem dX11_remark_48 : decode cX11_remark 48 = .ok (.invokevirtual 124, 3) := by decide +kernel
theorem dX11_remark_51 : decode cX11_remark 51 = .ok (.getfield 182, 3) := by decide +kernel
theorem dX11_remark_54 : decode cX11_remark 54 = .ok (.iload_n 2, 1) := by decide +kernel
theorem dX11_remark_55 : decode cX11_remark 55 = .ok (.invokevirtual 155, 3) := by decide +kernel
theorem dX11_remark_58 : decode cX11_remark 58 = .ok (.ireturn, 1) := by decide +kernel
theorem dX11_here_0 : decode cX11_here 0 = .ok (.aload_n 0, 1) := by decide +kernel
theorem dX11_here_1 : decode cX11_here 1 = .ok (.getfield 61, 3) := by decide +kernel
theorem dX11_here_4 : decode cX11_here 4 = .ok (.ireturn, 1) := by decide +kernel
theorem dX11_go_0 : decode cX11_go 0 = .ok (.aload_n 0, 1) := by decide +kernel
theorem dX11_go_1 : decode cX11_go 1 = .ok (.getfield 57, 3) := by decide +kernel
theorem dX11_go_4 : decode cX11_go 4 = .ok (.iload_n 1, 1) := by decide +kernel
theorem dX11_go_5 : decode cX11_go 5 = .ok (.invokevirtual 161, 3) := by decide +kernel
theorem dX11_go_8 : decode cX11_go 8 = .ok (.ifCond .ne 13, 3) := by decide +kernel
theorem dX11_go_11 : decode cX11_go 11 = .ok (.new 165, 3) := by decide +kernel
theorem dX11_go_14 : decode cX11_go 14 = .ok (.dup, 1) := by decide +kernel
theorem dX11_go_15 : decode cX11_go 15 = .ok (.ldc 167, 2) := by decide +kernel
theorem dX11_go_17 : decode cX11_go 17 = .ok (.invokespecial 169, 3) := by decide +kernel
theorem dX11_go_20 : decode cX11_go 20 = .ok (.athrow, 1) := by decide +kernel
theorem dX11_go_21 : decode cX11_go 21 = .ok (.aload_n 0, 1) := by decide +kernel
theorem dX11_go_22 : decode cX11_go 22 = .ok (.iload_n 1, 1) := by decide +kernel
theorem dX11_go_23 : decode cX11_go 23 = .ok (.putfield 61, 3) := by decide +kernel
theorem dX11_go_26 : decode cX11_go 26 = .ok (.aload_n 0, 1) := by decide +kernel
theorem dX11_go_27 : decode cX11_go 27 = .ok (.getfield 57, 3) := by decide +kernel
theorem dX11_go_30 : decode cX11_go 30 = .ok (.iload_n 1, 1) := by decide +kernel
theorem dX11_go_31 : decode cX11_go 31 = .ok (.aload_n 0, 1) := by decide +kernel
theorem dX11_go_32 : decode cX11_go 32 = .ok (.getfield 68, 3) := by decide +kernel
theorem dX11_go_35 : decode cX11_go 35 = .ok (.invokevirtual 112, 3) := by decide +kernel
theorem dX11_go_38 : decode cX11_go 38 = .ok (.return_, 1) := by decide +kernel
theorem dX11_man_0 : decode cX11_man 0 = .ok (.iload_n 1, 1) := by decide +kernel
theorem dX11_man_1 : decode cX11_man 1 = .ok (.ifCond .lt 9, 3) := by decide +kernel
theorem dX11_man_4 : decode cX11_man 4 = .ok (.iload_n 1, 1) := by decide +kernel
theorem dX11_man_5 : decode cX11_man 5 = .ok (.bipush 64, 2) := by decide +kernel
theorem dX11_man_7 : decode cX11_man 7 = .ok (.if_icmp .lt 13, 3) := by decide +kernel
theorem dX11_man_10 : decode cX11_man 10 = .ok (.new 165, 3) := by decide +kernel
theorem dX11_man_13 : decode cX11_man 13 = .ok (.dup, 1) := by decide +kernel
theorem dX11_man_14 : decode cX11_man 14 = .ok (.ldc 195, 2) := by decide +kernel
theorem dX11_man_16 : decode cX11_man 16 = .ok (.invokespecial 169, 3) := by decide +kernel
theorem dX11_man_19 : decode cX11_man 19 = .ok (.athrow, 1) := by decide +kernel
theorem dX11_man_20 : decode cX11_man 20 = .ok (.aload_n 0, 1) := by decide +kernel
theorem dX11_man_21 : decode cX11_man 21 = .ok (.getfield 68, 3) := by decide +kernel
theorem dX11_man_24 : decode cX11_man 24 = .ok (.getfield 197, 3) := by decide +kernel
theorem dX11_man_27 : decode cX11_man 27 = .ok (.iload_n 1, 1) := by decide +kernel
theorem dX11_man_28 : decode cX11_man 28 = .ok (.iaload, 1) := by decide +kernel
theorem dX11_man_29 : decode cX11_man 29 = .ok (.ireturn, 1) := by decide +kernel
theorem dX11_move_0 : decode cX11_move 0 = .ok (.aload_n 0, 1) := by decide +kernel
theorem dX11_move_1 : decode cX11_move 1 = .ok (.getfield 22, 3) := by decide +kernel
theorem dX11_move_4 : decode cX11_move 4 = .ok (.aload_n 0, 1) := by decide +kernel
theorem dX11_move_5 : decode cX11_move 5 = .ok (.getfield 68, 3) := by decide +kernel
theorem dX11_move_8 : decode cX11_move 8 = .ok (.iload_n 1, 1) := by decide +kernel
theorem dX11_move_9 : decode cX11_move 9 = .ok (.invokevirtual 201, 3) := by decide +kernel
theorem dX11_move_12 : decode cX11_move 12 = .ok (.ireturn, 1) := by decide +kernel
theorem dX11_add_0 : decode cX11_add 0 = .ok (.aload_n 0, 1) := by decide +kernel
theorem dX11_add_1 : decode cX11_add 1 = .ok (.getfield 22, 3) := by decide +kernel
theorem dX11_add_4 : decode cX11_add 4 = .ok (.aload_n 0, 1) := by decide +kernel
theorem dX11_add_5 : decode cX11_add 5 = .ok (.getfield 68, 3) := by decide +kernel
theorem dX11_add_8 : decode cX11_add 8 = .ok (.iload_n 1, 1) := by decide +kernel
theorem dX11_add_9 : decode cX11_add 9 = .ok (.invokevirtual 140, 3) := by decide +kernel
theorem dX11_add_12 : decode cX11_add 12 = .ok (.ifCond .ne 13, 3) := by decide +kernel
theorem dX11_add_15 : decode cX11_add 15 = .ok (.new 144, 3) := by decide +kernel
theorem dX11_add_18 : decode cX11_add 18 = .ok (.dup, 1) := by decide +kernel
theorem dX11_add_19 : decode cX11_add 19 = .ok (.ldc 146, 2) := by decide +kernel
theorem dX11_add_21 : decode cX11_add 21 = .ok (.invokespecial 148, 3) := by decide +kernel
theorem dX11_add_24 : decode cX11_add 24 = .ok (.athrow, 1) := by decide +kernel
theorem dX11_add_25 : decode cX11_add 25 = .ok (.aload_n 0, 1) := by decide +kernel
theorem dX11_add_26 : decode cX11_add 26 = .ok (.getfield 57, 3) := by decide +kernel
theorem dX11_add_29 : decode cX11_add 29 = .ok (.aload_n 0, 1) := by decide +kernel
theorem dX11_add_30 : decode cX11_add 30 = .ok (.getfield 61, 3) := by decide +kernel
theorem dX11_add_33 : decode cX11_add 33 = .ok (.iload_n 1, 1) := by decide +kernel
theorem dX11_add_34 : decode cX11_add 34 = .ok (.invokevirtual 205, 3) := by decide +kernel
theorem dX11_add_37 : decode cX11_add 37 = .ok (.istore_n 2, 1) := by decide +kernel
theorem dX11_add_38 : decode cX11_add 38 = .ok (.iload_n 2, 1) := by decide +kernel
theorem dX11_add_39 : decode cX11_add 39 = .ok (.iconst (-1), 1) := by decide +kernel
theorem dX11_add_40 : decode cX11_add 40 = .ok (.if_icmp .ne 55, 3) := by decide +kernel
theorem dX11_add_43 : decode cX11_add 43 = .ok (.aload_n 0, 1) := by decide +kernel
theorem dX11_add_44 : decode cX11_add 44 = .ok (.getfield 57, 3) := by decide +kernel
theorem dX11_add_47 : decode cX11_add 47 = .ok (.getfield 158, 3) := by decide +kernel
theorem dX11_add_50 : decode cX11_add 50 = .ok (.sipush 300, 3) := by decide +kernel
theorem dX11_add_53 : decode cX11_add 53 = .ok (.if_icmp .ge 19, 3) := by decide +kernel
theorem dX11_add_56 : decode cX11_add 56 = .ok (.aload_n 0, 1) := by decide +kernel
theorem dX11_add_57 : decode cX11_add 57 = .ok (.getfield 57, 3) := by decide +kernel
theorem dX11_add_60 : decode cX11_add 60 = .ok (.aload_n 0, 1) := by decide +kernel
theorem dX11_add_61 : decode cX11_add 61 = .ok (.getfield 61, 3) := by decide +kernel
theorem dX11_add_64 : decode cX11_add 64 = .ok (.invokevirtual 209, 3) := by decide +kernel
theorem dX11_add_67 : decode cX11_add 67 = .ok (.bipush 6, 2) := by decide +kernel
theorem dX11_add_69 : decode cX11_add 69 = .ok (.if_icmp .le 13, 3) := by decide +kernel
theorem dX11_add_72 : decode cX11_add 72 = .ok (.new 212, 3) := by decide +kernel
theorem dX11_add_75 : decode cX11_add 75 = .ok (.dup, 1) := by decide +kernel
theorem dX11_add_76 : decode cX11_add 76 = .ok (.ldc 214, 2) := by decide +kernel
theorem dX11_add_78 : decode cX11_add 78 = .ok (.invokespecial 216, 3) := by decide +kernel
theorem dX11_add_81 : decode cX11_add 81 = .ok (.athrow, 1) := by decide +kernel
theorem dX11_add_82 : decode cX11_add 82 = .ok (.aload_n 0, 1) := by decide +kernel
theorem dX11_add_83 : decode cX11_add 83 = .ok (.getfield 57, 3) := by decide +kernel
theorem dX11_add_86 : decode cX11_add 86 = .ok (.aload_n 0, 1) := by decide +kernel
theorem dX11_add_87 : decode cX11_add 87 = .ok (.getfield 61, 3) := by decide +kernel
theorem dX11_add_90 : decode cX11_add 90 = .ok (.iload_n 1, 1) := by decide +kernel
theorem dX11_add_91 : decode cX11_add 91 = .ok (.invokevirtual 217, 3) := by decide +kernel
theorem dX11_add_94 : decode cX11_add 94 = .ok (.istore_n 2, 1) := by decide +kernel
theorem dX11_add_95 : decode cX11_add 95 = .ok (.aload_n 0, 1) := by decide +kernel
theorem dX11_add_96 : decode cX11_add 96 = .ok (.iload_n 2, 1) := by decide +kernel
theorem dX11_add_97 : decode cX11_add 97 = .ok (.putfield 61, 3) := by decide +kernel
theorem dX11_add_100 : decode cX11_add 100 = .ok (.aload_n 0, 1) := by decide +kernel
theorem dX11_add_101 : decode cX11_add 101 = .ok (.getfield 68, 3) := by decide +kernel
theorem dX11_add_104 : decode cX11_add 104 = .ok (.iload_n 1, 1) := by decide +kernel
theorem dX11_add_105 : decode cX11_add 105 = .ok (.invokevirtual 220, 3) := by decide +kernel
theorem dX11_add_108 : decode cX11_add 108 = .ok (.iload_n 2, 1) := by decide +kernel
theorem dX11_add_109 : decode cX11_add 109 = .ok (.ireturn, 1) := by decide +kernel
theorem dX11_addMark_0 : decode cX11_addMark 0 = .ok (.iload_n 1, 1) := by decide +kernel
theorem dX11_addMark_1 : decode cX11_addMark 1 = .ok (.ifCond .lt 10, 3) := by decide +kernel
theorem dX11_addMark_4 : decode cX11_addMark 4 = .ok (.iload_n 1, 1) := by decide +kernel
theorem dX11_addMark_5 : decode cX11_addMark 5 = .ok (.sipush 255, 3) := by decide +kernel
theorem dX11_addMark_8 : decode cX11_addMark 8 = .ok (.if_icmp .le 13, 3) := by decide +kernel
theorem dX11_addMark_11 : decode cX11_addMark 11 = .ok (.new 144, 3) := by decide +kernel
theorem dX11_addMark_14 : decode cX11_addMark 14 = .ok (.dup, 1) := by decide +kernel
theorem dX11_addMark_15 : decode cX11_addMark 15 = .ok (.ldc 223, 2) := by decide +kernel
theorem dX11_addMark_17 : decode cX11_addMark 17 = .ok (.invokespecial 148, 3) := by decide +kernel
theorem dX11_addMark_20 : decode cX11_addMark 20 = .ok (.athrow, 1) := by decide +kernel
theorem dX11_addMark_21 : decode cX11_addMark 21 = .ok (.aload_n 0, 1) := by decide +kernel
theorem dX11_addMark_22 : decode cX11_addMark 22 = .ok (.getfield 57, 3) := by decide +kernel
theorem dX11_addMark_25 : decode cX11_addMark 25 = .ok (.aload_n 0, 1) := by decide +kernel
theorem dX11_addMark_26 : decode cX11_addMark 26 = .ok (.getfield 61, 3) := by decide +kernel
theorem dX11_addMark_29 : decode cX11_addMark 29 = .ok (.invokevirtual 124, 3) := by decide +kernel
theorem dX11_addMark_32 : decode cX11_addMark 32 = .ok (.astore_n 2, 1) := by decide +kernel
theorem dX11_addMark_33 : decode cX11_addMark 33 = .ok (.aload_n 0, 1) := by decide +kernel
theorem dX11_addMark_34 : decode cX11_addMark 34 = .ok (.getfield 61, 3) := by decide +kernel
theorem dX11_addMark_37 : decode cX11_addMark 37 = .ok (.ifCond .eq 11, 3) := by decide +kernel
theorem dX11_addMark_40 : decode cX11_addMark 40 = .ok (.aload_n 2, 1) := by decide +kernel
theorem dX11_addMark_41 : decode cX11_addMark 41 = .ok (.getfield 179, 3) := by decide +kernel
theorem dX11_addMark_44 : decode cX11_addMark 44 = .ok (.iconst 4, 1) := by decide +kernel
theorem dX11_addMark_45 : decode cX11_addMark 45 = .ok (.if_icmp .lt 13, 3) := by decide +kernel
theorem dX11_addMark_48 : decode cX11_addMark 48 = .ok (.new 225, 3) := by decide +kernel
theorem dX11_addMark_51 : decode cX11_addMark 51 = .ok (.dup, 1) := by decide +kernel
theorem dX11_addMark_52 : decode cX11_addMark 52 = .ok (.ldc 227, 2) := by decide +kernel
theorem dX11_addMark_54 : decode cX11_addMark 54 = .ok (.invokespecial 229, 3) := by decide +kernel
theorem dX11_addMark_57 : decode cX11_addMark 57 = .ok (.athrow, 1) := by decide +kernel
theorem dX11_addMark_58 : decode cX11_addMark 58 = .ok (.aload_n 2, 1) := by decide +kernel
theorem dX11_addMark_59 : decode cX11_addMark 59 = .ok (.iload_n 1, 1) := by decide +kernel
theorem dX11_addMark_60 : decode cX11_addMark 60 = .ok (.invokevirtual 230, 3) := by decide +kernel
theorem dX11_addMark_63 : decode cX11_addMark 63 = .ok (.aload_n 2, 1) := by decide +kernel
theorem dX11_addMark_64 : decode cX11_addMark 64 = .ok (.getfield 179, 3) := by decide +kernel
theorem dX11_addMark_67 : decode cX11_addMark 67 = .ok (.ireturn, 1) := by decide +kernel
theorem dX11_say_0 : decode cX11_say 0 = .ok (.aload_n 0, 1) := by decide +kernel
theorem dX11_say_1 : decode cX11_say 1 = .ok (.getfield 10, 3) := by decide +kernel
theorem dX11_say_4 : decode cX11_say 4 = .ok (.invokevirtual 75, 3) := by decide +kernel
theorem dX11_say_7 : decode cX11_say 7 = .ok (.istore_n 1, 1) := by decide +kernel
theorem dX11_say_8 : decode cX11_say 8 = .ok (.iload_n 1, 1) := by decide +kernel
theorem dX11_say_9 : decode cX11_say 9 = .ok (.sipush 200, 3) := by decide +kernel
theorem dX11_say_12 : decode cX11_say 12 = .ok (.if_icmp .gt 31, 3) := by decide +kernel
theorem dX11_say_15 : decode cX11_say 15 = .ok (.aload_n 0, 1) := by decide +kernel
theorem dX11_say_16 : decode cX11_say 16 = .ok (.getfield 10, 3) := by decide +kernel
theorem dX11_say_19 : decode cX11_say 19 = .ok (.bipush 125, 2) := by decide +kernel
theorem dX11_say_21 : decode cX11_say 21 = .ok (.iconst 0, 1) := by decide +kernel
theorem dX11_say_22 : decode cX11_say 22 = .ok (.invokevirtual 233, 3) := by decide +kernel
theorem dX11_say_25 : decode cX11_say 25 = .ok (.iload_n 1, 1) := by decide +kernel
theorem dX11_say_26 : decode cX11_say 26 = .ok (.if_icmp .lt 17, 3) := by decide +kernel
theorem dX11_say_29 : decode cX11_say 29 = .ok (.aload_n 0, 1) := by decide +kernel
theorem dX11_say_30 : decode cX11_say 30 = .ok (.getfield 10, 3) := by decide +kernel
theorem dX11_say_33 : decode cX11_say 33 = .ok (.bipush 10, 2) := by decide +kernel
theorem dX11_say_35 : decode cX11_say 35 = .ok (.iconst 0, 1) := by decide +kernel
theorem dX11_say_36 : decode cX11_say 36 = .ok (.invokevirtual 233, 3) := by decide +kernel
theorem dX11_say_39 : decode cX11_say 39 = .ok (.iload_n 1, 1) := by decide +kernel
theorem dX11_say_40 : decode cX11_say 40 = .ok (.if_icmp .ge 13, 3) := by decide +kernel
theorem dX11_say_43 : decode cX11_say 43 = .ok (.new 144, 3) := by decide +kernel
theorem dX11_say_46 : decode cX11_say 46 = .ok (.dup, 1) := by decide +kernel
theorem dX11_say_47 : decode cX11_say 47 = .ok (.ldc 237, 2) := by decide +kernel
theorem dX11_say_49 : decode cX11_say 49 = .ok (.invokespecial 148, 3) := by decide +kernel
theorem dX11_say_52 : decode cX11_say 52 = .ok (.athrow, 1) := by decide +kernel
theorem dX11_say_53 : decode cX11_say 53 = .ok (.aload_n 0, 1) := by decide +kernel
theorem dX11_say_54 : decode cX11_say 54 = .ok (.getfield 57, 3) := by decide +kernel
theorem dX11_say_57 : decode cX11_say 57 = .ok (.aload_n 0, 1) := by decide +kernel
theorem dX11_say_58 : decode cX11_say 58 = .ok (.getfield 61, 3) := by decide +kernel
theorem dX11_say_61 : decode cX11_say 61 = .ok (.invokevirtual 124, 3) := by decide +kernel
theorem dX11_say_64 : decode cX11_say 64 = .ok (.getfield 182, 3) := by decide +kernel
theorem dX11_say_67 : decode cX11_say 67 = .ok (.aload_n 0, 1) := by decide +kernel
theorem dX11_say_68 : decode cX11_say 68 = .ok (.getfield 10, 3) := by decide +kernel
theorem dX11_say_71 : decode cX11_say 71 = .ok (.invokevirtual 239, 3) := by decide +kernel
theorem dX11_say_74 : decode cX11_say 74 = .ok (.aload_n 0, 1) := by decide +kernel
theorem dX11_say_75 : decode cX11_say 75 = .ok (.getfield 10, 3) := by decide +kernel
theorem dX11_say_78 : decode cX11_say 78 = .ok (.iconst 0, 1) := by decide +kernel
theorem dX11_say_79 : decode cX11_say 79 = .ok (.invokevirtual 87, 3) := by decide +kernel
theorem dX11_say_82 : decode cX11_say 82 = .ok (.iload_n 1, 1) := by decide +kernel
theorem dX11_say_83 : decode cX11_say 83 = .ok (.ireturn, 1) := by decide +kernel
theorem dX11_lead_0 : decode cX11_lead 0 = .ok (.aload_n 0, 1) := by decide +kernel
theorem dX11_lead_1 : decode cX11_lead 1 = .ok (.getfield 61, 3) := by decide +kernel
theorem dX11_lead_4 : decode cX11_lead 4 = .ok (.ifCond .ne 13, 3) := by decide +kernel
theorem dX11_lead_7 : decode cX11_lead 7 = .ok (.new 225, 3) := by decide +kernel
theorem dX11_lead_10 : decode cX11_lead 10 = .ok (.dup, 1) := by decide +kernel
theorem dX11_lead_11 : decode cX11_lead 11 = .ok (.ldc 242, 2) := by decide +kernel
theorem dX11_lead_13 : decode cX11_lead 13 = .ok (.invokespecial 229, 3) := by decide +kernel
theorem dX11_lead_16 : decode cX11_lead 16 = .ok (.athrow, 1) := by decide +kernel
theorem dX11_lead_17 : decode cX11_lead 17 = .ok (.aload_n 0, 1) := by decide +kernel
theorem dX11_lead_18 : decode cX11_lead 18 = .ok (.getfield 57, 3) := by decide +kernel
theorem dX11_lead_21 : decode cX11_lead 21 = .ok (.aload_n 0, 1) := by decide +kernel
theorem dX11_lead_22 : decode cX11_lead 22 = .ok (.getfield 61, 3) := by decide +kernel
theorem dX11_lead_25 : decode cX11_lead 25 = .ok (.invokevirtual 244, 3) := by decide +kernel
theorem dX11_lead_28 : decode cX11_lead 28 = .ok (.ifCond .eq 5, 3) := by decide +kernel
theorem dX11_lead_31 : decode cX11_lead 31 = .ok (.iconst 0, 1) := by decide +kernel
theorem dX11_lead_32 : decode cX11_lead 32 = .ok (.ireturn, 1) := by decide +kernel
theorem dX11_lead_33 : decode cX11_lead 33 = .ok (.aload_n 0, 1) := by decide +kernel
theorem dX11_lead_34 : decode cX11_lead 34 = .ok (.getfield 57, 3) := by decide +kernel
theorem dX11_lead_37 : decode cX11_lead 37 = .ok (.aload_n 0, 1) := by decide +kernel
theorem dX11_lead_38 : decode cX11_lead 38 = .ok (.getfield 61, 3) := by decide +kernel
theorem dX11_lead_41 : decode cX11_lead 41 = .ok (.invokevirtual 247, 3) := by decide +kernel
theorem dX11_lead_44 : decode cX11_lead 44 = .ok (.ifCond .ne 13, 3) := by decide +kernel
theorem dX11_lead_47 : decode cX11_lead 47 = .ok (.new 225, 3) := by decide +kernel
theorem dX11_lead_50 : decode cX11_lead 50 = .ok (.dup, 1) := by decide +kernel
theorem dX11_lead_51 : decode cX11_lead 51 = .ok (.ldc 250, 2) := by decide +kernel
theorem dX11_lead_53 : decode cX11_lead 53 = .ok (.invokespecial 229, 3) := by decide +kernel
theorem dX11_lead_56 : decode cX11_lead 56 = .ok (.athrow, 1) := by decide +kernel
theorem dX11_lead_57 : decode cX11_lead 57 = .ok (.aload_n 0, 1) := by decide +kernel
theorem dX11_lead_58 : decode cX11_lead 58 = .ok (.getfield 57, 3) := by decide +kernel
theorem dX11_lead_61 : decode cX11_lead 61 = .ok (.aload_n 0, 1) := by decide +kernel
theorem dX11_lead_62 : decode cX11_lead 62 = .ok (.getfield 61, 3) := by decide +kernel
theorem dX11_lead_65 : decode cX11_lead 65 = .ok (.invokevirtual 252, 3) := by decide +kernel
theorem dX11_lead_68 : decode cX11_lead 68 = .ok (.iconst 1, 1) := by decide +kernel
theorem dX11_lead_69 : decode cX11_lead 69 = .ok (.ireturn, 1) := by decide +kernel
theorem dX11_end_0 : decode cX11_end 0 = .ok (.iload_n 1, 1) := by decide +kernel
theorem dX11_end_1 : decode cX11_end 1 = .ok (.ifCond .lt 8, 3) := by decide +kernel
theorem dX11_end_4 : decode cX11_end 4 = .ok (.iload_n 1, 1) := by decide +kernel
theorem dX11_end_5 : decode cX11_end 5 = .ok (.iconst 4, 1) := by decide +kernel
theorem dX11_end_6 : decode cX11_end 6 = .ok (.if_icmp .lt 13, 3) := by decide +kernel
theorem dX11_end_9 : decode cX11_end 9 = .ok (.new 144, 3) := by decide +kernel
theorem dX11_end_12 : decode cX11_end 12 = .ok (.dup, 1) := by decide +kernel
theorem dX11_end_13 : decode cX11_end 13 = .ok (.ldc 255, 2) := by decide +kernel
theorem dX11_end_15 : decode cX11_end 15 = .ok (.invokespecial 148, 3) := by decide +kernel
theorem dX11_end_18 : decode cX11_end 18 = .ok (.athrow, 1) := by decide +kernel
theorem dX11_end_19 : decode cX11_end 19 = .ok (.aload_n 0, 1) := by decide +kernel
theorem dX11_end_20 : decode cX11_end 20 = .ok (.getfield 57, 3) := by decide +kernel
theorem dX11_end_23 : decode cX11_end 23 = .ok (.iload_n 1, 1) := by decide +kernel
theorem dX11_end_24 : decode cX11_end 24 = .ok (.putfield 257, 3) := by decide +kernel
theorem dX11_end_27 : decode cX11_end 27 = .ok (.return_, 1) := by decide +kernel
theorem dX11_result_0 : decode cX11_result 0 = .ok (.aload_n 0, 1) := by decide +kernel
theorem dX11_result_1 : decode cX11_result 1 = .ok (.getfield 57, 3) := by decide +kernel
theorem dX11_result_4 : decode cX11_result 4 = .ok (.getfield 257, 3) := by decide +kernel
theorem dX11_result_7 : decode cX11_result 7 = .ok (.ireturn, 1) := by decide +kernel
theorem dX11_tags_0 : decode cX11_tags 0 = .ok (.aload_n 0, 1) := by decide +kernel
theorem dX11_tags_1 : decode cX11_tags 1 = .ok (.getfield 57, 3) := by decide +kernel
theorem dX11_tags_4 : decode cX11_tags 4 = .ok (.getfield 260, 3) := by decide +kernel
theorem dX11_tags_7 : decode cX11_tags 7 = .ok (.ireturn, 1) := by decide +kernel
theorem dX11_tag_0 : decode cX11_tag 0 = .ok (.iload_n 1, 1) := by decide +kernel
theorem dX11_tag_1 : decode cX11_tag 1 = .ok (.ifCond .lt 18, 3) := by decide +kernel
theorem dX11_tag_4 : decode cX11_tag 4 = .ok (.iload_n 1, 1) := by decide +kernel
theorem dX11_tag_5 : decode cX11_tag 5 = .ok (.aload_n 0, 1) := by decide +kernel
theorem dX11_tag_6 : decode cX11_tag 6 = .ok (.getfield 57, 3) := by decide +kernel
theorem dX11_tag_9 : decode cX11_tag 9 = .ok (.getfield 260, 3) := by decide +kernel
theorem dX11_tag_12 : decode cX11_tag 12 = .ok (.if_icmp .ge 7, 3) := by decide +kernel
theorem dX11_tag_15 : decode cX11_tag 15 = .ok (.iload_n 3, 1) := by decide +kernel
theorem dX11_tag_16 : decode cX11_tag 16 = .ok (.ifCond .ge 14, 3) := by decide +kernel
theorem dX11_tag_19 : decode cX11_tag 19 = .ok (.new 165, 3) := by decide +kernel
theorem dX11_tag_22 : decode cX11_tag 22 = .ok (.dup, 1) := by decide +kernel
theorem dX11_tag_23 : decode cX11_tag 23 = .ok (.ldc_w 263, 3) := by decide +kernel
theorem dX11_tag_26 : decode cX11_tag 26 = .ok (.invokespecial 169, 3) := by decide +kernel
theorem dX11_tag_29 : decode cX11_tag 29 = .ok (.athrow, 1) := by decide +kernel
theorem dX11_tag_30 : decode cX11_tag 30 = .ok (.aload_n 0, 1) := by decide +kernel
theorem dX11_tag_31 : decode cX11_tag 31 = .ok (.getfield 57, 3) := by decide +kernel
theorem dX11_tag_34 : decode cX11_tag 34 = .ok (.iload_n 1, 1) := by decide +kernel
theorem dX11_tag_35 : decode cX11_tag 35 = .ok (.invokevirtual 265, 3) := by decide +kernel
theorem dX11_tag_38 : decode cX11_tag 38 = .ok (.astore 4, 2) := by decide +kernel
theorem dX11_tag_40 : decode cX11_tag 40 = .ok (.iload_n 2, 1) := by decide +kernel
theorem dX11_tag_41 : decode cX11_tag 41 = .ok (.ifCond .eq 15, 3) := by decide +kernel
theorem dX11_tag_44 : decode cX11_tag 44 = .ok (.aload 4, 2) := by decide +kernel
theorem dX11_tag_46 : decode cX11_tag 46 = .ok (.getfield 269, 3) := by decide +kernel
theorem dX11_tag_49 : decode cX11_tag 49 = .ok (.iload_n 3, 1) := by decide +kernel
theorem dX11_tag_50 : decode cX11_tag 50 = .ok (.invokevirtual 155, 3) := by decide +kernel
theorem dX11_tag_53 : decode cX11_tag 53 = .ok (.goto 12, 3) := by decide +kernel
theorem dX11_tag_56 : decode cX11_tag 56 = .ok (.aload 4, 2) := by decide +kernel
theorem dX11_tag_58 : decode cX11_tag 58 = .ok (.getfield 274, 3) := by decide +kernel
theorem dX11_tag_61 : decode cX11_tag 61 = .ok (.iload_n 3, 1) := by decide +kernel
theorem dX11_tag_62 : decode cX11_tag 62 = .ok (.invokevirtual 155, 3) := by decide +kernel
theorem dX11_tag_65 : decode cX11_tag 65 = .ok (.ireturn, 1) := by decide +kernel
theorem dX11_byteOf_0 : decode cX11_byteOf 0 = .ok (.lload_n 0, 1) := by decide +kernel
theorem dX11_byteOf_1 : decode cX11_byteOf 1 = .ok (.bipush 8, 2) := by decide +kernel
theorem dX11_byteOf_3 : decode cX11_byteOf 3 = .ok (.iload_n 2, 1) := by decide +kernel
theorem dX11_byteOf_4 : decode cX11_byteOf 4 = .ok (.imul, 1) := by decide +kernel
theorem dX11_byteOf_5 : decode cX11_byteOf 5 = .ok (.lushr, 1) := by decide +kernel
theorem dX11_byteOf_6 : decode cX11_byteOf 6 = .ok (.ldc2_w 277, 3) := by decide +kernel
theorem dX11_byteOf_9 : decode cX11_byteOf 9 = .ok (.land, 1) := by decide +kernel
theorem dX11_byteOf_10 : decode cX11_byteOf 10 = .ok (.l2i, 1) := by decide +kernel
theorem dX11_byteOf_11 : decode cX11_byteOf 11 = .ok (.i2c, 1) := by decide +kernel
theorem dX11_byteOf_12 : decode cX11_byteOf 12 = .ok (.ireturn, 1) := by decide +kernel
theorem dX11_isDigit_0 : decode cX11_isDigit 0 = .ok (.iload_n 0, 1) := by decide +kernel
theorem dX11_isDigit_1 : decode cX11_isDigit 1 = .ok (.bipush 48, 2) := by decide +kernel
theorem dX11_isDigit_3 : decode cX11_isDigit 3 = .ok (.if_icmp .lt 13, 3) := by decide +kernel
theorem dX11_isDigit_6 : decode cX11_isDigit 6 = .ok (.iload_n 0, 1) := by decide +kernel
theorem dX11_isDigit_7 : decode cX11_isDigit 7 = .ok (.bipush 57, 2) := by decide +kernel
theorem dX11_isDigit_9 : decode cX11_isDigit 9 = .ok (.if_icmp .gt 7, 3) := by decide +kernel
theorem dX11_isDigit_12 : decode cX11_isDigit 12 = .ok (.iconst 1, 1) := by decide +kernel
theorem dX11_isDigit_13 : decode cX11_isDigit 13 = .ok (.goto 4, 3) := by decide +kernel
theorem dX11_isDigit_16 : decode cX11_isDigit 16 = .ok (.iconst 0, 1) := by decide +kernel
theorem dX11_isDigit_17 : decode cX11_isDigit 17 = .ok (.ireturn, 1) := by decide +kernel
theorem dX11_isLetter_0 : decode cX11_isLetter 0 = .ok (.iload_n 0, 1) := by decide +kernel
theorem dX11_isLetter_1 : decode cX11_isLetter 1 = .ok (.bipush 97, 2) := by decide +kernel
theorem dX11_isLetter_3 : decode cX11_isLetter 3 = .ok (.if_icmp .lt 9, 3) := by decide +kernel
theorem dX11_isLetter_6 : decode cX11_isLetter 6 = .ok (.iload_n 0, 1) := by decide +kernel
theorem dX11_isLetter_7 : decode cX11_isLetter 7 = .ok (.bipush 122, 2) := by decide +kernel
theorem dX11_isLetter_9 : decode cX11_isLetter 9 = .ok (.if_icmp .le 15, 3) := by decide +kernel
theorem dX11_isLetter_12 : decode cX11_isLetter 12 = .ok (.iload_n 0, 1) := by decide +kernel
theorem dX11_isLetter_13 : decode cX11_isLetter 13 = .ok (.bipush 65, 2) := by decide +kernel
theorem dX11_isLetter_15 : decode cX11_isLetter 15 = .ok (.if_icmp .lt 13, 3) := by decide +kernel
theorem dX11_isLetter_18 : decode cX11_isLetter 18 = .ok (.iload_n 0, 1) := by decide +kernel
theorem dX11_isLetter_19 : decode cX11_isLetter 19 = .ok (.bipush 90, 2) := by decide +kernel
theorem dX11_isLetter_21 : decode cX11_isLetter 21 = .ok (.if_icmp .gt 7, 3) := by decide +kernel
theorem dX11_isLetter_24 : decode cX11_isLetter 24 = .ok (.iconst 1, 1) := by decide +kernel
theorem dX11_isLetter_25 : decode cX11_isLetter 25 = .ok (.goto 4, 3) := by decide +kernel
theorem dX11_isLetter_28 : decode cX11_isLetter 28 = .ok (.iconst 0, 1) := by decide +kernel
theorem dX11_isLetter_29 : decode cX11_isLetter 29 = .ok (.ireturn, 1) := by decide +kernel
theorem dX11_isFile_0 : decode cX11_isFile 0 = .ok (.iload_n 0, 1) := by decide +kernel
theorem dX11_isFile_1 : decode cX11_isFile 1 = .ok (.bipush 97, 2) := by decide +kernel
theorem dX11_isFile_3 : decode cX11_isFile 3 = .ok (.if_icmp .lt 13, 3) := by decide +kernel
theorem dX11_isFile_6 : decode cX11_isFile 6 = .ok (.iload_n 0, 1) := by decide +kernel
theorem dX11_isFile_7 : decode cX11_isFile 7 = .ok (.bipush 104, 2) := by decide +kernel
theorem dX11_isFile_9 : decode cX11_isFile 9 = .ok (.if_icmp .gt 7, 3) := by decide +kernel
theorem dX11_isFile_12 : decode cX11_isFile 12 = .ok (.iconst 1, 1) := by decide +kernel
theorem dX11_isFile_13 : decode cX11_isFile 13 = .ok (.goto 4, 3) := by decide +kernel
theorem dX11_isFile_16 : decode cX11_isFile 16 = .ok (.iconst 0, 1) := by decide +kernel
theorem dX11_isFile_17 : decode cX11_isFile 17 = .ok (.ireturn, 1) := by decide +kernel
theorem dX11_isRank_0 : decode cX11_isRank 0 = .ok (.iload_n 0, 1) := by decide +kernel
theorem dX11_isRank_1 : decode cX11_isRank 1 = .ok (.bipush 49, 2) := by decide +kernel
theorem dX11_isRank_3 : decode cX11_isRank 3 = .ok (.if_icmp .lt 13, 3) := by decide +kernel
theorem dX11_isRank_6 : decode cX11_isRank 6 = .ok (.iload_n 0, 1) := by decide +kernel
theorem dX11_isRank_7 : decode cX11_isRank 7 = .ok (.bipush 56, 2) := by decide +kernel
theorem dX11_isRank_9 : decode cX11_isRank 9 = .ok (.if_icmp .gt 7, 3) := by decide +kernel
theorem dX11_isRank_12 : decode cX11_isRank 12 = .ok (.iconst 1, 1) := by decide +kernel
theorem dX11_isRank_13 : decode cX11_isRank 13 = .ok (.goto 4, 3) := by decide +kernel
theorem dX11_isRank_16 : decode cX11_isRank 16 = .ok (.iconst 0, 1) := by decide +kernel
theorem dX11_isRank_17 : decode cX11_isRank 17 = .ok (.ireturn, 1) := by decide +kernel
theorem dX11_squareOf_0 : decode cX11_squareOf 0 = .ok (.iload_n 0, 1) := by decide +kernel
theorem dX11_squareOf_1 : decode cX11_squareOf 1 = .ok (.invokestatic 279, 3) := by decide +kernel
theorem dX11_squareOf_4 : decode cX11_squareOf 4 = .ok (.ifCond .eq 25, 3) := by decide +kernel
theorem dX11_squareOf_7 : decode cX11_squareOf 7 = .ok (.iload_n 1, 1) := by decide +kernel
theorem dX11_squareOf_8 : decode cX11_squareOf 8 = .ok (.invokestatic 283, 3) := by decide +kernel
theorem dX11_squareOf_11 : decode cX11_squareOf 11 = .ok (.ifCond .eq 18, 3) := by decide +kernel
theorem dX11_squareOf_14 : decode cX11_squareOf 14 = .ok (.iload_n 0, 1) := by decide +kernel
theorem dX11_squareOf_15 : decode cX11_squareOf 15 = .ok (.bipush 97, 2) := by decide +kernel
theorem dX11_squareOf_17 : decode cX11_squareOf 17 = .ok (.isub, 1) := by decide +kernel
theorem dX11_squareOf_18 : decode cX11_squareOf 18 = .ok (.bipush 8, 2) := by decide +kernel
theorem dX11_squareOf_20 : decode cX11_squareOf 20 = .ok (.iload_n 1, 1) := by decide +kernel
theorem dX11_squareOf_21 : decode cX11_squareOf 21 = .ok (.bipush 49, 2) := by decide +kernel
theorem dX11_squareOf_23 : decode cX11_squareOf 23 = .ok (.isub, 1) := by decide +kernel
theorem dX11_squareOf_24 : decode cX11_squareOf 24 = .ok (.imul, 1) := by decide +kernel
theorem dX11_squareOf_25 : decode cX11_squareOf 25 = .ok (.iadd, 1) := by decide +kernel
theorem dX11_squareOf_26 : decode cX11_squareOf 26 = .ok (.goto 4, 3) := by decide +kernel
theorem dX11_squareOf_29 : decode cX11_squareOf 29 = .ok (.iconst (-1), 1) := by decide +kernel
theorem dX11_squareOf_30 : decode cX11_squareOf 30 = .ok (.ireturn, 1) := by decide +kernel
theorem dX11_fileLetter_0 : decode cX11_fileLetter 0 = .ok (.bipush 97, 2) := by decide +kernel
theorem dX11_fileLetter_2 : decode cX11_fileLetter 2 = .ok (.iload_n 0, 1) := by decide +kernel
theorem dX11_fileLetter_3 : decode cX11_fileLetter 3 = .ok (.bipush 7, 2) := by decide +kernel
theorem dX11_fileLetter_5 : decode cX11_fileLetter 5 = .ok (.iand, 1) := by decide +kernel
theorem dX11_fileLetter_6 : decode cX11_fileLetter 6 = .ok (.iadd, 1) := by decide +kernel
theorem dX11_fileLetter_7 : decode cX11_fileLetter 7 = .ok (.i2c, 1) := by decide +kernel
theorem dX11_fileLetter_8 : decode cX11_fileLetter 8 = .ok (.ireturn, 1) := by decide +kernel
theorem dX11_rankDigit_0 : decode cX11_rankDigit 0 = .ok (.bipush 49, 2) := by decide +kernel
theorem dX11_rankDigit_2 : decode cX11_rankDigit 2 = .ok (.iload_n 0, 1) := by decide +kernel
theorem dX11_rankDigit_3 : decode cX11_rankDigit 3 = .ok (.iconst 3, 1) := by decide +kernel
theorem dX11_rankDigit_4 : decode cX11_rankDigit 4 = .ok (.ishr, 1) := by decide +kernel
theorem dX11_rankDigit_5 : decode cX11_rankDigit 5 = .ok (.iadd, 1) := by decide +kernel
theorem dX11_rankDigit_6 : decode cX11_rankDigit 6 = .ok (.i2c, 1) := by decide +kernel
theorem dX11_rankDigit_7 : decode cX11_rankDigit 7 = .ok (.ireturn, 1) := by decide +kernel
theorem dX11_kindOf_0 : decode cX11_kindOf 0 = .ok (.ldc_w 286, 3) := by decide +kernel
theorem dX11_kindOf_3 : decode cX11_kindOf 3 = .ok (.iload_n 0, 1) := by decide +kernel
theorem dX11_kindOf_4 : decode cX11_kindOf 4 = .ok (.invokevirtual 288, 3) := by decide +kernel
theorem dX11_kindOf_7 : decode cX11_kindOf 7 = .ok (.iconst 1, 1) := by decide +kernel
theorem dX11_kindOf_8 : decode cX11_kindOf 8 = .ok (.iadd, 1) := by decide +kernel
theorem dX11_kindOf_9 : decode cX11_kindOf 9 = .ok (.ireturn, 1) := by decide +kernel
theorem dX11_letterOf_0 : decode cX11_letterOf 0 = .ok (.iload_n 0, 1) := by decide +kernel
theorem dX11_letterOf_1 : decode cX11_letterOf 1 = .ok (.iconst 1, 1) := by decide +kernel
theorem dX11_letterOf_2 : decode cX11_letterOf 2 = .ok (.if_icmp .lt 21, 3) := by decide +kernel
theorem dX11_letterOf_5 : decode cX11_letterOf 5 = .ok (.iload_n 0, 1) := by decide +kernel
theorem dX11_letterOf_6 : decode cX11_letterOf 6 = .ok (.bipush 6, 2) := by decide +kernel
theorem dX11_letterOf_8 : decode cX11_letterOf 8 = .ok (.if_icmp .gt 15, 3) := by decide +kernel
theorem dX11_letterOf_11 : decode cX11_letterOf 11 = .ok (.ldc_w 286, 3) := by decide +kernel
theorem dX11_letterOf_14 : decode cX11_letterOf 14 = .ok (.iload_n 0, 1) := by decide +kernel
theorem dX11_letterOf_15 : decode cX11_letterOf 15 = .ok (.iconst 1, 1) := by decide +kernel
theorem dX11_letterOf_16 : decode cX11_letterOf 16 = .ok (.isub, 1) := by decide +kernel
theorem dX11_letterOf_17 : decode cX11_letterOf 17 = .ok (.invokevirtual 292, 3) := by decide +kernel
theorem dX11_letterOf_20 : decode cX11_letterOf 20 = .ok (.goto 5, 3) := by decide +kernel
theorem dX11_letterOf_23 : decode cX11_letterOf 23 = .ok (.bipush 63, 2) := by decide +kernel
theorem dX11_letterOf_25 : decode cX11_letterOf 25 = .ok (.ireturn, 1) := by decide +kernel
theorem dX11_resultSign_0 : decode cX11_resultSign 0 = .ok (.iload_n 0, 1) := by decide +kernel
theorem dX11_resultSign_1 : decode cX11_resultSign 1 = .ok (.tableswitch 39 1 3 #[27, 31, 35], 27) := by decide +kernel
theorem dX11_resultSign_28 : decode cX11_resultSign 28 = .ok (.ldc_w 295, 3) := by decide +kernel
theorem dX11_resultSign_31 : decode cX11_resultSign 31 = .ok (.areturn, 1) := by decide +kernel
theorem dX11_resultSign_32 : decode cX11_resultSign 32 = .ok (.ldc_w 297, 3) := by decide +kernel
theorem dX11_resultSign_35 : decode cX11_resultSign 35 = .ok (.areturn, 1) := by decide +kernel
theorem dX11_resultSign_36 : decode cX11_resultSign 36 = .ok (.ldc_w 299, 3) := by decide +kernel
theorem dX11_resultSign_39 : decode cX11_resultSign 39 = .ok (.areturn, 1) := by decide +kernel
theorem dX11_resultSign_40 : decode cX11_resultSign 40 = .ok (.ldc_w 301, 3) := by decide +kernel
theorem dX11_resultSign_43 : decode cX11_resultSign 43 = .ok (.areturn, 1) := by decide +kernel
end
