theorem dX3_init_0 : decode cX3_init 0 = .ok (.aload_n 0, 1) := by decide +kernel
theorem dX3_init_1 : decode cX3_init 1 = .ok (.invokespecial 3, 3) := by decide +kernel
theorem dX3_init_4 : decode cX3_init 4 = .ok (.aload_n 0, 1) := by decide +kernel
theorem dX3_init_5 : decode cX3_init 5 = .ok (.new 9, 3) := by decide +kernel
theorem dX3_init_8 : decode cX3_init 8 = .ok (.dup, 1) := by decide +kernel
theorem dX3_init_9 : decode cX3_init 9 = .ok (.invokespecial 11, 3) := by decide +kernel
theorem dX3_init_12 : decode cX3_init 12 = .ok (.putfield 12, 3) := by decide +kernel
theorem dX3_init_15 : decode cX3_init 15 = .ok (.aload_n 0, 1) := by decide +kernel
theorem dX3_init_16 : decode cX3_init 16 = .ok (.bipush 7, 2) := by decide +kernel
theorem dX3_init_18 : decode cX3_init 18 = .ok (.anewarray 18, 3) := by decide +kernel
theorem dX3_init_21 : decode cX3_init 21 = .ok (.putfield 20, 3) := by decide +kernel
theorem dX3_init_24 : decode cX3_init 24 = .ok (.iconst 0, 1) := by decide +kernel
theorem dX3_init_25 : decode cX3_init 25 = .ok (.istore_n 1, 1) := by decide +kernel
theorem dX3_init_26 : decode cX3_init 26 = .ok (.iload_n 1, 1) := by decide +kernel
theorem dX3_init_27 : decode cX3_init 27 = .ok (.bipush 6, 2) := by decide +kernel
theorem dX3_init_29 : decode cX3_init 29 = .ok (.if_icmp .gt 22, 3) := by decide +kernel
theorem dX3_init_32 : decode cX3_init 32 = .ok (.aload_n 0, 1) := by decide +kernel
theorem dX3_init_33 : decode cX3_init 33 = .ok (.getfield 20, 3) := by decide +kernel
theorem dX3_init_36 : decode cX3_init 36 = .ok (.iload_n 1, 1) := by decide +kernel
theorem dX3_init_37 : decode cX3_init 37 = .ok (.new 18, 3) := by decide +kernel
theorem dX3_init_40 : decode cX3_init 40 = .ok (.dup, 1) := by decide +kernel
theorem dX3_init_41 : decode cX3_init 41 = .ok (.invokespecial 24, 3) := by decide +kernel
theorem dX3_init_44 : decode cX3_init 44 = .ok (.aastore, 1) := by decide +kernel
theorem dX3_init_45 : decode cX3_init 45 = .ok (.iinc 1 1, 3) := by decide +kernel
theorem dX3_init_48 : decode cX3_init 48 = .ok (.goto (-22), 3) := by decide +kernel
theorem dX3_init_51 : decode cX3_init 51 = .ok (.return_, 1) := by decide +kernel
theorem dX3_putHead_0 : decode cX3_putHead 0 = .ok (.iconst 0, 1) := by decide +kernel
theorem dX3_putHead_1 : decode cX3_putHead 1 = .ok (.istore_n 3, 1) := by decide +kernel
theorem dX3_putHead_2 : decode cX3_putHead 2 = .ok (.iload_n 3, 1) := by decide +kernel
theorem dX3_putHead_3 : decode cX3_putHead 3 = .ok (.aload_n 1, 1) := by decide +kernel
theorem dX3_putHead_4 : decode cX3_putHead 4 = .ok (.getfield 25, 3) := by decide +kernel
theorem dX3_putHead_7 : decode cX3_putHead 7 = .ok (.if_icmp .ge 52, 3) := by decide +kernel
theorem dX3_putHead_10 : decode cX3_putHead 10 = .ok (.aload_n 1, 1) := by decide +kernel
theorem dX3_putHead_11 : decode cX3_putHead 11 = .ok (.iload_n 3, 1) := by decide +kernel
theorem dX3_putHead_12 : decode cX3_putHead 12 = .ok (.invokevirtual 31, 3) := by decide +kernel
theorem dX3_putHead_15 : decode cX3_putHead 15 = .ok (.astore 4, 2) := by decide +kernel
theorem dX3_putHead_17 : decode cX3_putHead 17 = .ok (.aload_n 2, 1) := by decide +kernel
theorem dX3_putHead_18 : decode cX3_putHead 18 = .ok (.bipush 91, 2) := by decide +kernel
theorem dX3_putHead_20 : decode cX3_putHead 20 = .ok (.invokevirtual 35, 3) := by decide +kernel
theorem dX3_putHead_23 : decode cX3_putHead 23 = .ok (.aload_n 2, 1) := by decide +kernel
theorem dX3_putHead_24 : decode cX3_putHead 24 = .ok (.aload 4, 2) := by decide +kernel
theorem dX3_putHead_26 : decode cX3_putHead 26 = .ok (.getfield 41, 3) := by decide +kernel
theorem dX3_putHead_29 : decode cX3_putHead 29 = .ok (.invokevirtual 47, 3) := by decide +kernel
theorem dX3_putHead_32 : decode cX3_putHead 32 = .ok (.aload_n 2, 1) := by decide +kernel
theorem dX3_putHead_33 : decode cX3_putHead 33 = .ok (.ldc 51, 2) := by decide +kernel
theorem dX3_putHead_35 : decode cX3_putHead 35 = .ok (.invokevirtual 53, 3) := by decide +kernel
theorem dX3_putHead_38 : decode cX3_putHead 38 = .ok (.aload 4, 2) := by decide +kernel
theorem dX3_putHead_40 : decode cX3_putHead 40 = .ok (.getfield 57, 3) := by decide +kernel
theorem dX3_putHead_43 : decode cX3_putHead 43 = .ok (.aload_n 2, 1) := by decide +kernel
theorem dX3_putHead_44 : decode cX3_putHead 44 = .ok (.invokestatic 60, 3) := by decide +kernel
theorem dX3_putHead_47 : decode cX3_putHead 47 = .ok (.aload_n 2, 1) := by decide +kernel
theorem dX3_putHead_48 : decode cX3_putHead 48 = .ok (.ldc 64, 2) := by decide +kernel
theorem dX3_putHead_50 : decode cX3_putHead 50 = .ok (.invokevirtual 53, 3) := by decide +kernel
theorem dX3_putHead_53 : decode cX3_putHead 53 = .ok (.iinc 3 1, 3) := by decide +kernel
theorem dX3_putHead_56 : decode cX3_putHead 56 = .ok (.goto (-54), 3) := by decide +kernel
theorem dX3_putHead_59 : decode cX3_putHead 59 = .ok (.aload_n 1, 1) := by decide +kernel
theorem dX3_putHead_60 : decode cX3_putHead 60 = .ok (.getfield 25, 3) := by decide +kernel
theorem dX3_putHead_63 : decode cX3_putHead 63 = .ok (.ifCond .le 9, 3) := by decide +kernel
theorem dX3_putHead_66 : decode cX3_putHead 66 = .ok (.aload_n 2, 1) := by decide +kernel
theorem dX3_putHead_67 : decode cX3_putHead 67 = .ok (.bipush 10, 2) := by decide +kernel
theorem dX3_putHead_69 : decode cX3_putHead 69 = .ok (.invokevirtual 35, 3) := by decide +kernel
theorem dX3_putHead_72 : decode cX3_putHead 72 = .ok (.aload_n 1, 1) := by decide +kernel
theorem dX3_putHead_73 : decode cX3_putHead 73 = .ok (.iconst 0, 1) := by decide +kernel
theorem dX3_putHead_74 : decode cX3_putHead 74 = .ok (.invokevirtual 66, 3) := by decide +kernel
theorem dX3_putHead_77 : decode cX3_putHead 77 = .ok (.aload_n 2, 1) := by decide +kernel
theorem dX3_putHead_78 : decode cX3_putHead 78 = .ok (.invokestatic 70, 3) := by decide +kernel
theorem dX3_putHead_81 : decode cX3_putHead 81 = .ok (.aload_n 0, 1) := by decide +kernel
theorem dX3_putHead_82 : decode cX3_putHead 82 = .ok (.getfield 20, 3) := by decide +kernel
theorem dX3_putHead_85 : decode cX3_putHead 85 = .ok (.iconst 0, 1) := by decide +kernel
theorem dX3_putHead_86 : decode cX3_putHead 86 = .ok (.aaload, 1) := by decide +kernel
theorem dX3_putHead_87 : decode cX3_putHead 87 = .ok (.aload_n 1, 1) := by decide +kernel
theorem dX3_putHead_88 : decode cX3_putHead 88 = .ok (.getfield 74, 3) := by decide +kernel
theorem dX3_putHead_91 : decode cX3_putHead 91 = .ok (.invokevirtual 78, 3) := by decide +kernel
theorem dX3_putHead_94 : decode cX3_putHead 94 = .ok (.return_, 1) := by decide +kernel
theorem dX3_putQuoted_0 : decode cX3_putQuoted 0 = .ok (.iconst 0, 1) := by decide +kernel
theorem dX3_putQuoted_1 : decode cX3_putQuoted 1 = .ok (.istore_n 2, 1) := by decide +kernel
theorem dX3_putQuoted_2 : decode cX3_putQuoted 2 = .ok (.iload_n 2, 1) := by decide +kernel
theorem dX3_putQuoted_3 : decode cX3_putQuoted 3 = .ok (.aload_n 0, 1) := by decide +kernel
theorem dX3_putQuoted_4 : decode cX3_putQuoted 4 = .ok (.invokevirtual 82, 3) := by decide +kernel
theorem dX3_putQuoted_7 : decode cX3_putQuoted 7 = .ok (.if_icmp .ge 38, 3) := by decide +kernel
theorem dX3_putQuoted_10 : decode cX3_putQuoted 10 = .ok (.aload_n 0, 1) := by decide +kernel
theorem dX3_putQuoted_11 : decode cX3_putQuoted 11 = .ok (.iload_n 2, 1) := by decide +kernel
theorem dX3_putQuoted_12 : decode cX3_putQuoted 12 = .ok (.invokevirtual 86, 3) := by decide +kernel
theorem dX3_putQuoted_15 : decode cX3_putQuoted 15 = .ok (.istore_n 3, 1) := by decide +kernel
theorem dX3_putQuoted_16 : decode cX3_putQuoted 16 = .ok (.iload_n 3, 1) := by decide +kernel
theorem dX3_putQuoted_17 : decode cX3_putQuoted 17 = .ok (.bipush 34, 2) := by decide +kernel
theorem dX3_putQuoted_19 : decode cX3_putQuoted 19 = .ok (.if_icmp .eq 9, 3) := by decide +kernel
theorem dX3_putQuoted_22 : decode cX3_putQuoted 22 = .ok (.iload_n 3, 1) := by decide +kernel
theorem dX3_putQuoted_23 : decode cX3_putQuoted 23 = .ok (.bipush 92, 2) := by decide +kernel
theorem dX3_putQuoted_25 : decode cX3_putQuoted 25 = .ok (.if_icmp .ne 9, 3) := by decide +kernel
theorem dX3_putQuoted_28 : decode cX3_putQuoted 28 = .ok (.aload_n 1, 1) := by decide +kernel
theorem dX3_putQuoted_29 : decode cX3_putQuoted 29 = .ok (.bipush 92, 2) := by decide +kernel
theorem dX3_putQuoted_31 : decode cX3_putQuoted 31 = .ok (.invokevirtual 35, 3) := by decide +kernel
theorem dX3_putQuoted_34 : decode cX3_putQuoted 34 = .ok (.aload_n 1, 1) := by decide +kernel
theorem dX3_putQuoted_35 : decode cX3_putQuoted 35 = .ok (.iload_n 3, 1) := by decide +kernel
theorem dX3_putQuoted_36 : decode cX3_putQuoted 36 = .ok (.invokevirtual 35, 3) := by decide +kernel
theorem dX3_putQuoted_39 : decode cX3_putQuoted 39 = .ok (.iinc 2 1, 3) := by decide +kernel
theorem dX3_putQuoted_42 : decode cX3_putQuoted 42 = .ok (.goto (-40), 3) := by decide +kernel
theorem dX3_putQuoted_45 : decode cX3_putQuoted 45 = .ok (.return_, 1) := by decide +kernel
theorem dX3_putEnd_0 : decode cX3_putEnd 0 = .ok (.aload_n 2, 1) := by decide +kernel
theorem dX3_putEnd_1 : decode cX3_putEnd 1 = .ok (.invokestatic 89, 3) := by decide +kernel
theorem dX3_putEnd_4 : decode cX3_putEnd 4 = .ok (.aload_n 2, 1) := by decide +kernel
theorem dX3_putEnd_5 : decode cX3_putEnd 5 = .ok (.aload_n 1, 1) := by decide +kernel
theorem dX3_putEnd_6 : decode cX3_putEnd 6 = .ok (.getfield 92, 3) := by decide +kernel
theorem dX3_putEnd_9 : decode cX3_putEnd 9 = .ok (.invokestatic 95, 3) := by decide +kernel
theorem dX3_putEnd_12 : decode cX3_putEnd 12 = .ok (.invokevirtual 53, 3) := by decide +kernel
theorem dX3_putEnd_15 : decode cX3_putEnd 15 = .ok (.return_, 1) := by decide +kernel
theorem dX3_putGap_0 : decode cX3_putGap 0 = .ok (.aload_n 0, 1) := by decide +kernel
theorem dX3_putGap_1 : decode cX3_putGap 1 = .ok (.aload_n 0, 1) := by decide +kernel
theorem dX3_putGap_2 : decode cX3_putGap 2 = .ok (.invokevirtual 82, 3) := by decide +kernel
theorem dX3_putGap_5 : decode cX3_putGap 5 = .ok (.iconst 1, 1) := by decide +kernel
theorem dX3_putGap_6 : decode cX3_putGap 6 = .ok (.isub, 1) := by decide +kernel
theorem dX3_putGap_7 : decode cX3_putGap 7 = .ok (.invokevirtual 86, 3) := by decide +kernel
theorem dX3_putGap_10 : decode cX3_putGap 10 = .ok (.istore_n 1, 1) := by decide +kernel
theorem dX3_putGap_11 : decode cX3_putGap 11 = .ok (.iload_n 1, 1) := by decide +kernel
theorem dX3_putGap_12 : decode cX3_putGap 12 = .ok (.ifCond .eq 21, 3) := by decide +kernel
theorem dX3_putGap_15 : decode cX3_putGap 15 = .ok (.iload_n 1, 1) := by decide +kernel
theorem dX3_putGap_16 : decode cX3_putGap 16 = .ok (.bipush 10, 2) := by decide +kernel
theorem dX3_putGap_18 : decode cX3_putGap 18 = .ok (.if_icmp .eq 15, 3) := by decide +kernel
theorem dX3_putGap_21 : decode cX3_putGap 21 = .ok (.iload_n 1, 1) := by decide +kernel
theorem dX3_putGap_22 : decode cX3_putGap 22 = .ok (.bipush 40, 2) := by decide +kernel
theorem dX3_putGap_24 : decode cX3_putGap 24 = .ok (.if_icmp .eq 9, 3) := by decide +kernel
theorem dX3_putGap_27 : decode cX3_putGap 27 = .ok (.aload_n 0, 1) := by decide +kernel
theorem dX3_putGap_28 : decode cX3_putGap 28 = .ok (.bipush 32, 2) := by decide +kernel
theorem dX3_putGap_30 : decode cX3_putGap 30 = .ok (.invokevirtual 35, 3) := by decide +kernel
theorem dX3_putGap_33 : decode cX3_putGap 33 = .ok (.return_, 1) := by decide +kernel
theorem dX3_putRemark_0 : decode cX3_putRemark 0 = .ok (.aload_n 0, 1) := by decide +kernel
theorem dX3_putRemark_1 : decode cX3_putRemark 1 = .ok (.getfield 99, 3) := by decide +kernel
theorem dX3_putRemark_4 : decode cX3_putRemark 4 = .ok (.invokevirtual 82, 3) := by decide +kernel
theorem dX3_putRemark_7 : decode cX3_putRemark 7 = .ok (.ifCond .ne 4, 3) := by decide +kernel
theorem dX3_putRemark_10 : decode cX3_putRemark 10 = .ok (.return_, 1) := by decide +kernel
theorem dX3_putRemark_11 : decode cX3_putRemark 11 = .ok (.aload_n 1, 1) := by decide +kernel
theorem dX3_putRemark_12 : decode cX3_putRemark 12 = .ok (.invokestatic 89, 3) := by decide +kernel
theorem dX3_putRemark_15 : decode cX3_putRemark 15 = .ok (.aload_n 1, 1) := by decide +kernel
theorem dX3_putRemark_16 : decode cX3_putRemark 16 = .ok (.bipush 123, 2) := by decide +kernel
theorem dX3_putRemark_18 : decode cX3_putRemark 18 = .ok (.invokevirtual 35, 3) := by decide +kernel
theorem dX3_putRemark_21 : decode cX3_putRemark 21 = .ok (.aload_n 1, 1) := by decide +kernel
theorem dX3_putRemark_22 : decode cX3_putRemark 22 = .ok (.aload_n 0, 1) := by decide +kernel
theorem dX3_putRemark_23 : decode cX3_putRemark 23 = .ok (.getfield 99, 3) := by decide +kernel
theorem dX3_putRemark_26 : decode cX3_putRemark 26 = .ok (.invokevirtual 47, 3) := by decide +kernel
theorem dX3_putRemark_29 : decode cX3_putRemark 29 = .ok (.aload_n 1, 1) := by decide +kernel
theorem dX3_putRemark_30 : decode cX3_putRemark 30 = .ok (.bipush 125, 2) := by decide +kernel
theorem dX3_putRemark_32 : decode cX3_putRemark 32 = .ok (.invokevirtual 35, 3) := by decide +kernel
theorem dX3_putRemark_35 : decode cX3_putRemark 35 = .ok (.return_, 1) := by decide +kernel
theorem dX3_putLine_0 : decode cX3_putLine 0 = .ok (.iload_n 3, 1) := by decide +kernel
theorem dX3_putLine_1 : decode cX3_putLine 1 = .ok (.bipush 6, 2) := by decide +kernel
theorem dX3_putLine_3 : decode cX3_putLine 3 = .ok (.if_icmp .le 4, 3) := by decide +kernel
theorem dX3_putLine_6 : decode cX3_putLine 6 = .ok (.return_, 1) := by decide +kernel
theorem dX3_putLine_7 : decode cX3_putLine 7 = .ok (.aload_n 0, 1) := by decide +kernel
theorem dX3_putLine_8 : decode cX3_putLine 8 = .ok (.getfield 20, 3) := by decide +kernel
theorem dX3_putLine_11 : decode cX3_putLine 11 = .ok (.iload_n 3, 1) := by decide +kernel
theorem dX3_putLine_12 : decode cX3_putLine 12 = .ok (.aaload, 1) := by decide +kernel
theorem dX3_putLine_13 : decode cX3_putLine 13 = .ok (.astore 5, 2) := by decide +kernel
theorem dX3_putLine_15 : decode cX3_putLine 15 = .ok (.iconst 1, 1) := by decide +kernel
theorem dX3_putLine_16 : decode cX3_putLine 16 = .ok (.istore 6, 2) := by decide +kernel
theorem dX3_putLine_18 : decode cX3_putLine 18 = .ok (.iload_n 2, 1) := by decide +kernel
theorem dX3_putLine_19 : decode cX3_putLine 19 = .ok (.istore 7, 2) := by decide +kernel
theorem dX3_putLine_21 : decode cX3_putLine 21 = .ok (.iconst 0, 1) := by decide +kernel
theorem dX3_putLine_22 : decode cX3_putLine 22 = .ok (.istore 8, 2) := by decide +kernel
theorem dX3_putLine_24 : decode cX3_putLine 24 = .ok (.iload 8, 2) := by decide +kernel
theorem dX3_putLine_26 : decode cX3_putLine 26 = .ok (.sipush 300, 3) := by decide +kernel
theorem dX3_putLine_29 : decode cX3_putLine 29 = .ok (.if_icmp .ge 177, 3) := by decide +kernel
theorem dX3_putLine_32 : decode cX3_putLine 32 = .ok (.iload 7, 2) := by decide +kernel
theorem dX3_putLine_34 : decode cX3_putLine 34 = .ok (.iconst (-1), 1) := by decide +kernel
theorem dX3_putLine_35 : decode cX3_putLine 35 = .ok (.if_icmp .eq 171, 3) := by decide +kernel
theorem dX3_putLine_38 : decode cX3_putLine 38 = .ok (.aload_n 1, 1) := by decide +kernel
theorem dX3_putLine_39 : decode cX3_putLine 39 = .ok (.iload 7, 2) := by decide +kernel
theorem dX3_putLine_41 : decode cX3_putLine 41 = .ok (.invokevirtual 66, 3) := by decide +kernel
theorem dX3_putLine_44 : decode cX3_putLine 44 = .ok (.astore 9, 2) := by decide +kernel
theorem dX3_putLine_46 : decode cX3_putLine 46 = .ok (.aload_n 0, 1) := by decide +kernel
theorem dX3_putLine_47 : decode cX3_putLine 47 = .ok (.aload 5, 2) := by decide +kernel
theorem dX3_putLine_49 : decode cX3_putLine 49 = .ok (.aload 9, 2) := by decide +kernel
theorem dX3_putLine_51 : decode cX3_putLine 51 = .ok (.iload 6, 2) := by decide +kernel
theorem dX3_putLine_53 : decode cX3_putLine 53 = .ok (.aload 4, 2) := by decide +kernel
theorem dX3_putLine_55 : decode cX3_putLine 55 = .ok (.invokevirtual 104, 3) := by decide +kernel
theorem dX3_putLine_58 : decode cX3_putLine 58 = .ok (.aload 9, 2) := by decide +kernel
theorem dX3_putLine_60 : decode cX3_putLine 60 = .ok (.getfield 99, 3) := by decide +kernel
theorem dX3_putLine_63 : decode cX3_putLine 63 = .ok (.invokevirtual 82, 3) := by decide +kernel
theorem dX3_putLine_66 : decode cX3_putLine 66 = .ok (.ifCond .le 7, 3) := by decide +kernel
theorem dX3_putLine_69 : decode cX3_putLine 69 = .ok (.iconst 1, 1) := by decide +kernel
theorem dX3_putLine_70 : decode cX3_putLine 70 = .ok (.goto 4, 3) := by decide +kernel
theorem dX3_putLine_73 : decode cX3_putLine 73 = .ok (.iconst 0, 1) := by decide +kernel
theorem dX3_putLine_74 : decode cX3_putLine 74 = .ok (.istore 6, 2) := by decide +kernel
theorem dX3_putLine_76 : decode cX3_putLine 76 = .ok (.aload_n 1, 1) := by decide +kernel
theorem dX3_putLine_77 : decode cX3_putLine 77 = .ok (.iload 7, 2) := by decide +kernel
theorem dX3_putLine_79 : decode cX3_putLine 79 = .ok (.invokevirtual 108, 3) := by decide +kernel
theorem dX3_putLine_82 : decode cX3_putLine 82 = .ok (.ifCond .eq 11, 3) := by decide +kernel
theorem dX3_putLine_85 : decode cX3_putLine 85 = .ok (.aload 9, 2) := by decide +kernel
theorem dX3_putLine_87 : decode cX3_putLine 87 = .ok (.getfield 112, 3) := by decide +kernel
theorem dX3_putLine_90 : decode cX3_putLine 90 = .ok (.goto 4, 3) := by decide +kernel
theorem dX3_putLine_93 : decode cX3_putLine 93 = .ok (.iconst (-1), 1) := by decide +kernel
theorem dX3_putLine_94 : decode cX3_putLine 94 = .ok (.istore 10, 2) := by decide +kernel
theorem dX3_putLine_96 : decode cX3_putLine 96 = .ok (.iconst 0, 1) := by decide +kernel
theorem dX3_putLine_97 : decode cX3_putLine 97 = .ok (.istore 11, 2) := by decide +kernel
theorem dX3_putLine_99 : decode cX3_putLine 99 = .ok (.iload 11, 2) := by decide +kernel
theorem dX3_putLine_101 : decode cX3_putLine 101 = .ok (.sipush 300, 3) := by decide +kernel
theorem dX3_putLine_104 : decode cX3_putLine 104 = .ok (.if_icmp .ge 79, 3) := by decide +kernel
theorem dX3_putLine_107 : decode cX3_putLine 107 = .ok (.iload 10, 2) := by decide +kernel
theorem dX3_putLine_109 : decode cX3_putLine 109 = .ok (.iconst (-1), 1) := by decide +kernel
theorem dX3_putLine_110 : decode cX3_putLine 110 = .ok (.if_icmp .eq 73, 3) := by decide +kernel
theorem dX3_putLine_113 : decode cX3_putLine 113 = .ok (.iload_n 3, 1) := by decide +kernel
theorem dX3_putLine_114 : decode cX3_putLine 114 = .ok (.bipush 6, 2) := by decide +kernel
theorem dX3_putLine_116 : decode cX3_putLine 116 = .ok (.if_icmp .ge 67, 3) := by decide +kernel
theorem dX3_putLine_119 : decode cX3_putLine 119 = .ok (.aload_n 0, 1) := by decide +kernel
theorem dX3_putLine_120 : decode cX3_putLine 120 = .ok (.getfield 20, 3) := by decide +kernel
theorem dX3_putLine_123 : decode cX3_putLine 123 = .ok (.iload_n 3, 1) := by decide +kernel
theorem dX3_putLine_124 : decode cX3_putLine 124 = .ok (.iconst 1, 1) := by decide +kernel
theorem dX3_putLine_125 : decode cX3_putLine 125 = .ok (.iadd, 1) := by decide +kernel
theorem dX3_putLine_126 : decode cX3_putLine 126 = .ok (.aaload, 1) := by decide +kernel
theorem dX3_putLine_127 : decode cX3_putLine 127 = .ok (.aload 5, 2) := by decide +kernel
theorem dX3_putLine_129 : decode cX3_putLine 129 = .ok (.invokevirtual 78, 3) := by decide +kernel
theorem dX3_putLine_132 : decode cX3_putLine 132 = .ok (.aload 4, 2) := by decide +kernel
theorem dX3_putLine_134 : decode cX3_putLine 134 = .ok (.invokestatic 89, 3) := by decide +kernel
theorem dX3_putLine_137 : decode cX3_putLine 137 = .ok (.aload 4, 2) := by decide +kernel
theorem dX3_putLine_139 : decode cX3_putLine 139 = .ok (.bipush 40, 2) := by decide +kernel
theorem dX3_putLine_141 : decode cX3_putLine 141 = .ok (.invokevirtual 35, 3) := by decide +kernel
theorem dX3_putLine_144 : decode cX3_putLine 144 = .ok (.aload_n 0, 1) := by decide +kernel
theorem dX3_putLine_145 : decode cX3_putLine 145 = .ok (.aload_n 1, 1) := by decide +kernel
theorem dX3_putLine_146 : decode cX3_putLine 146 = .ok (.iload 10, 2) := by decide +kernel
theorem dX3_putLine_148 : decode cX3_putLine 148 = .ok (.iload_n 3, 1) := by decide +kernel
theorem dX3_putLine_149 : decode cX3_putLine 149 = .ok (.iconst 1, 1) := by decide +kernel
theorem dX3_putLine_150 : decode cX3_putLine 150 = .ok (.iadd, 1) := by decide +kernel
theorem dX3_putLine_151 : decode cX3_putLine 151 = .ok (.aload 4, 2) := by decide +kernel
theorem dX3_putLine_153 : decode cX3_putLine 153 = .ok (.invokevirtual 115, 3) := by decide +kernel
theorem dX3_putLine_156 : decode cX3_putLine 156 = .ok (.aload 4, 2) := by decide +kernel
theorem dX3_putLine_158 : decode cX3_putLine 158 = .ok (.bipush 41, 2) := by decide +kernel
theorem dX3_putLine_160 : decode cX3_putLine 160 = .ok (.invokevirtual 35, 3) := by decide +kernel
theorem dX3_putLine_163 : decode cX3_putLine 163 = .ok (.iconst 1, 1) := by decide +kernel
theorem dX3_putLine_164 : decode cX3_putLine 164 = .ok (.istore 6, 2) := by decide +kernel
theorem dX3_putLine_166 : decode cX3_putLine 166 = .ok (.aload_n 1, 1) := by decide +kernel
theorem dX3_putLine_167 : decode cX3_putLine 167 = .ok (.iload 10, 2) := by decide +kernel
theorem dX3_putLine_169 : decode cX3_putLine 169 = .ok (.invokevirtual 66, 3) := by decide +kernel
theorem dX3_putLine_172 : decode cX3_putLine 172 = .ok (.getfield 112, 3) := by decide +kernel
theorem dX3_putLine_175 : decode cX3_putLine 175 = .ok (.istore 10, 2) := by decide +kernel
theorem dX3_putLine_177 : decode cX3_putLine 177 = .ok (.iinc 11 1, 3) := by decide +kernel
theorem dX3_putLine_180 : decode cX3_putLine 180 = .ok (.goto (-81), 3) := by decide +kernel
theorem dX3_putLine_183 : decode cX3_putLine 183 = .ok (.aload 5, 2) := by decide +kernel
theorem dX3_putLine_185 : decode cX3_putLine 185 = .ok (.aload 9, 2) := by decide +kernel
theorem dX3_putLine_187 : decode cX3_putLine 187 = .ok (.getfield 119, 3) := by decide +kernel
theorem dX3_putLine_190 : decode cX3_putLine 190 = .ok (.invokevirtual 122, 3) := by decide +kernel
theorem dX3_putLine_193 : decode cX3_putLine 193 = .ok (.aload 9, 2) := by decide +kernel
theorem dX3_putLine_195 : decode cX3_putLine 195 = .ok (.getfield 126, 3) := by decide +kernel
theorem dX3_putLine_198 : decode cX3_putLine 198 = .ok (.istore 7, 2) := by decide +kernel
theorem dX3_putLine_200 : decode cX3_putLine 200 = .ok (.iinc 8 1, 3) := by decide +kernel
theorem dX3_putLine_203 : decode cX3_putLine 203 = .ok (.goto (-179), 3) := by decide +kernel
theorem dX3_putLine_206 : decode cX3_putLine 206 = .ok (.return_, 1) := by decide +kernel
theorem dX3_putMove_0 : decode cX3_putMove 0 = .ok (.aload_n 1, 1) := by decide +kernel
theorem dX3_putMove_1 : decode cX3_putMove 1 = .ok (.getfield 129, 3) := by decide +kernel
theorem dX3_putMove_4 : decode cX3_putMove 4 = .ok (.ifCond .eq 7, 3) := by decide +kernel
theorem dX3_putMove_7 : decode cX3_putMove 7 = .ok (.iload_n 3, 1) := by decide +kernel
theorem dX3_putMove_8 : decode cX3_putMove 8 = .ok (.ifCond .eq 36, 3) := by decide +kernel
theorem dX3_putMove_11 : decode cX3_putMove 11 = .ok (.aload 4, 2) := by decide +kernel
theorem dX3_putMove_13 : decode cX3_putMove 13 = .ok (.invokestatic 89, 3) := by decide +kernel
theorem dX3_putMove_16 : decode cX3_putMove 16 = .ok (.aload 4, 2) := by decide +kernel
theorem dX3_putMove_18 : decode cX3_putMove 18 = .ok (.aload_n 1, 1) := by decide +kernel
theorem dX3_putMove_19 : decode cX3_putMove 19 = .ok (.getfield 132, 3) := by decide +kernel
theorem dX3_putMove_22 : decode cX3_putMove 22 = .ok (.invokevirtual 135, 3) := by decide +kernel
theorem dX3_putMove_25 : decode cX3_putMove 25 = .ok (.aload 4, 2) := by decide +kernel
theorem dX3_putMove_27 : decode cX3_putMove 27 = .ok (.aload_n 1, 1) := by decide +kernel
theorem dX3_putMove_28 : decode cX3_putMove 28 = .ok (.getfield 129, 3) := by decide +kernel
theorem dX3_putMove_31 : decode cX3_putMove 31 = .ok (.ifCond .ne 8, 3) := by decide +kernel
theorem dX3_putMove_34 : decode cX3_putMove 34 = .ok (.ldc 138, 2) := by decide +kernel
theorem dX3_putMove_36 : decode cX3_putMove 36 = .ok (.goto 5, 3) := by decide +kernel
theorem dX3_putMove_39 : decode cX3_putMove 39 = .ok (.ldc 140, 2) := by decide +kernel
theorem dX3_putMove_41 : decode cX3_putMove 41 = .ok (.invokevirtual 53, 3) := by decide +kernel
theorem dX3_putMove_44 : decode cX3_putMove 44 = .ok (.aload 4, 2) := by decide +kernel
theorem dX3_putMove_46 : decode cX3_putMove 46 = .ok (.invokestatic 89, 3) := by decide +kernel
theorem dX3_putMove_49 : decode cX3_putMove 49 = .ok (.aload_n 0, 1) := by decide +kernel
theorem dX3_putMove_50 : decode cX3_putMove 50 = .ok (.getfield 12, 3) := by decide +kernel
theorem dX3_putMove_53 : decode cX3_putMove 53 = .ok (.aload_n 1, 1) := by decide +kernel
theorem dX3_putMove_54 : decode cX3_putMove 54 = .ok (.aload_n 2, 1) := by decide +kernel
theorem dX3_putMove_55 : decode cX3_putMove 55 = .ok (.getfield 119, 3) := by decide +kernel
theorem dX3_putMove_58 : decode cX3_putMove 58 = .ok (.aload 4, 2) := by decide +kernel
theorem dX3_putMove_60 : decode cX3_putMove 60 = .ok (.invokevirtual 142, 3) := by decide +kernel
theorem dX3_putMove_63 : decode cX3_putMove 63 = .ok (.iconst 0, 1) := by decide +kernel
theorem dX3_putMove_64 : decode cX3_putMove 64 = .ok (.istore 5, 2) := by decide +kernel
theorem dX3_putMove_66 : decode cX3_putMove 66 = .ok (.iload 5, 2) := by decide +kernel
theorem dX3_putMove_68 : decode cX3_putMove 68 = .ok (.aload_n 2, 1) := by decide +kernel
theorem dX3_putMove_69 : decode cX3_putMove 69 = .ok (.getfield 146, 3) := by decide +kernel
theorem dX3_putMove_72 : decode cX3_putMove 72 = .ok (.if_icmp .ge 32, 3) := by decide +kernel
theorem dX3_putMove_75 : decode cX3_putMove 75 = .ok (.aload 4, 2) := by decide +kernel
theorem dX3_putMove_77 : decode cX3_putMove 77 = .ok (.invokestatic 89, 3) := by decide +kernel
theorem dX3_putMove_80 : decode cX3_putMove 80 = .ok (.aload 4, 2) := by decide +kernel
theorem dX3_putMove_82 : decode cX3_putMove 82 = .ok (.bipush 36, 2) := by decide +kernel
theorem dX3_putMove_84 : decode cX3_putMove 84 = .ok (.invokevirtual 35, 3) := by decide +kernel
theorem dX3_putMove_87 : decode cX3_putMove 87 = .ok (.aload 4, 2) := by decide +kernel
theorem dX3_putMove_89 : decode cX3_putMove 89 = .ok (.aload_n 2, 1) := by decide +kernel
theorem dX3_putMove_90 : decode cX3_putMove 90 = .ok (.iload 5, 2) := by decide +kernel
theorem dX3_putMove_92 : decode cX3_putMove 92 = .ok (.invokevirtual 149, 3) := by decide +kernel
theorem dX3_putMove_95 : decode cX3_putMove 95 = .ok (.invokevirtual 135, 3) := by decide +kernel
theorem dX3_putMove_98 : decode cX3_putMove 98 = .ok (.iinc 5 1, 3) := by decide +kernel
theorem dX3_putMove_101 : decode cX3_putMove 101 = .ok (.goto (-35), 3) := by decide +kernel
theorem dX3_putMove_104 : decode cX3_putMove 104 = .ok (.aload_n 2, 1) := by decide +kernel
theorem dX3_putMove_105 : decode cX3_putMove 105 = .ok (.aload 4, 2) := by decide +kernel
theorem dX3_putMove_107 : decode cX3_putMove 107 = .ok (.invokestatic 70, 3) := by decide +kernel
theorem dX3_putMove_110 : decode cX3_putMove 110 = .ok (.return_, 1) := by decide +kernel
theorem dX4_init_0 : decode cX4_init 0 = .ok (.aload_n 0, 1) := by decide +kernel
theorem dX4_init_1 : decode cX4_init 1 = .ok (.invokespecial 3, 3) := by decide +kernel
theorem dX4_init_4 : decode cX4_init 4 = .ok (.aload_n 0, 1) := by decide +kernel
theorem dX4_init_5 : decode cX4_init 5 = .ok (.iconst (-1), 1) := by decide +kernel
theorem dX4_init_6 : decode cX4_init 6 = .ok (.putfield 9, 3) := by decide +kernel
theorem dX4_init_9 : decode cX4_init 9 = .ok (.aload_n 0, 1) := by decide +kernel
theorem dX4_init_10 : decode cX4_init 10 = .ok (.iconst (-1), 1) := by decide +kernel
theorem dX4_init_11 : decode cX4_init 11 = .ok (.putfield 15, 3) := by decide +kernel
theorem dX4_init_14 : decode cX4_init 14 = .ok (.aload_n 0, 1) := by decide +kernel
theorem dX4_init_15 : decode cX4_init 15 = .ok (.iconst (-1), 1) := by decide +kernel
theorem dX4_init_16 : decode cX4_init 16 = .ok (.putfield 18, 3) := by decide +kernel
theorem dX4_init_19 : decode cX4_init 19 = .ok (.aload_n 0, 1) := by decide +kernel
theorem dX4_init_20 : decode cX4_init 20 = .ok (.iconst (-1), 1) := by decide +kernel
theorem dX4_init_21 : decode cX4_init 21 = .ok (.putfield 21, 3) := by decide +kernel
theorem dX4_init_24 : decode cX4_init 24 = .ok (.aload_n 0, 1) := by decide +kernel
theorem dX4_init_25 : decode cX4_init 25 = .ok (.iconst 0, 1) := by decide +kernel
theorem dX4_init_26 : decode cX4_init 26 = .ok (.putfield 24, 3) := by decide +kernel
theorem dX4_init_29 : decode cX4_init 29 = .ok (.aload_n 0, 1) := by decide +kernel
theorem dX4_init_30 : decode cX4_init 30 = .ok (.iconst 0, 1) := by decide +kernel
theorem dX4_init_31 : decode cX4_init 31 = .ok (.putfield 27, 3) := by decide +kernel
theorem dX4_init_34 : decode cX4_init 34 = .ok (.aload_n 0, 1) := by decide +kernel
theorem dX4_init_35 : decode cX4_init 35 = .ok (.new 30, 3) := by decide +kernel
theorem dX4_init_38 : decode cX4_init 38 = .ok (.dup, 1) := by decide +kernel
theorem dX4_init_39 : decode cX4_init 39 = .ok (.invokespecial 32, 3) := by decide +kernel
theorem dX4_init_42 : decode cX4_init 42 = .ok (.putfield 33, 3) := by decide +kernel
theorem dX4_init_45 : decode cX4_init 45 = .ok (.return_, 1) := by decide +kernel
theorem dX4_become_0 : decode cX4_become 0 = .ok (.aload_n 0, 1) := by decide +kernel
theorem dX4_become_1 : decode cX4_become 1 = .ok (.iload_n 1, 1) := by decide +kernel
theorem dX4_become_2 : decode cX4_become 2 = .ok (.putfield 9, 3) := by decide +kernel
theorem dX4_become_5 : decode cX4_become 5 = .ok (.aload_n 0, 1) := by decide +kernel
theorem dX4_become_6 : decode cX4_become 6 = .ok (.iload_n 2, 1) := by decide +kernel
theorem dX4_become_7 : decode cX4_become 7 = .ok (.putfield 15, 3) := by decide +kernel
theorem dX4_become_10 : decode cX4_become 10 = .ok (.aload_n 0, 1) := by decide +kernel
theorem dX4_become_11 : decode cX4_become 11 = .ok (.iconst (-1), 1) := by decide +kernel
theorem dX4_become_12 : decode cX4_become 12 = .ok (.putfield 18, 3) := by decide +kernel
theorem dX4_become_15 : decode cX4_become 15 = .ok (.aload_n 0, 1) := by decide +kernel
theorem dX4_become_16 : decode cX4_become 16 = .ok (.iconst (-1), 1) := by decide +kernel
theorem dX4_become_17 : decode cX4_become 17 = .ok (.putfield 21, 3) := by decide +kernel
theorem dX4_become_20 : decode cX4_become 20 = .ok (.aload_n 0, 1) := by decide +kernel
theorem dX4_become_21 : decode cX4_become 21 = .ok (.iconst 0, 1) := by decide +kernel
theorem dX4_become_22 : decode cX4_become 22 = .ok (.putfield 24, 3) := by decide +kernel
theorem dX4_become_25 : decode cX4_become 25 = .ok (.aload_n 0, 1) := by decide +kernel
theorem dX4_become_26 : decode cX4_become 26 = .ok (.iconst 0, 1) := by decide +kernel
theorem dX4_become_27 : decode cX4_become 27 = .ok (.putfield 27, 3) := by decide +kernel
theorem dX4_become_30 : decode cX4_become 30 = .ok (.aload_n 0, 1) := by decide +kernel
theorem dX4_become_31 : decode cX4_become 31 = .ok (.getfield 33, 3) := by decide +kernel
theorem dX4_become_34 : decode cX4_become 34 = .ok (.iconst 0, 1) := by decide +kernel
theorem dX4_become_35 : decode cX4_become 35 = .ok (.invokevirtual 37, 3) := by decide +kernel
theorem dX4_become_38 : decode cX4_become 38 = .ok (.return_, 1) := by decide +kernel
theorem dX4_markAt_0 : decode cX4_markAt 0 = .ok (.aload_n 0, 1) := by decide +kernel
theorem dX4_markAt_1 : decode cX4_markAt 1 = .ok (.getfield 27, 3) := by decide +kernel
theorem dX4_markAt_4 : decode cX4_markAt 4 = .ok (.bipush 8, 2) := by decide +kernel
theorem dX4_markAt_6 : decode cX4_markAt 6 = .ok (.iload_n 1, 1) := by decide +kernel
theorem dX4_markAt_7 : decode cX4_markAt 7 = .ok (.imul, 1) := by decide +kernel
theorem dX4_markAt_8 : decode cX4_markAt 8 = .ok (.iushr, 1) := by decide +kernel
theorem dX4_markAt_9 : decode cX4_markAt 9 = .ok (.sipush 255, 3) := by decide +kernel
theorem dX4_markAt_12 : decode cX4_markAt 12 = .ok (.iand, 1) := by decide +kernel
theorem dX4_markAt_13 : decode cX4_markAt 13 = .ok (.ireturn, 1) := by decide +kernel
theorem dX4_putMark_0 : decode cX4_putMark 0 = .ok (.aload_n 0, 1) := by decide +kernel
theorem dX4_putMark_1 : decode cX4_putMark 1 = .ok (.dup, 1) := by decide +kernel
theorem dX4_putMark_2 : decode cX4_putMark 2 = .ok (.getfield 27, 3) := by decide +kernel
theorem dX4_putMark_5 : decode cX4_putMark 5 = .ok (.iload_n 1, 1) := by decide +kernel
theorem dX4_putMark_6 : decode cX4_putMark 6 = .ok (.bipush 8, 2) := by decide +kernel
theorem dX4_putMark_8 : decode cX4_putMark 8 = .ok (.aload_n 0, 1) := by decide +kernel
theorem dX4_putMark_9 : decode cX4_putMark 9 = .ok (.getfield 24, 3) := by decide +kernel
theorem dX4_putMark_12 : decode cX4_putMark 12 = .ok (.imul, 1) := by decide +kernel
theorem dX4_putMark_13 : decode cX4_putMark 13 = .ok (.ishl, 1) := by decide +kernel
theorem dX4_putMark_14 : decode cX4_putMark 14 = .ok (.ior, 1) := by decide +kernel
theorem dX4_putMark_15 : decode cX4_putMark 15 = .ok (.putfield 27, 3) := by decide +kernel
theorem dX4_putMark_18 : decode cX4_putMark 18 = .ok (.aload_n 0, 1) := by decide +kernel
theorem dX4_putMark_19 : decode cX4_putMark 19 = .ok (.dup, 1) := by decide +kernel
theorem dX4_putMark_20 : decode cX4_putMark 20 = .ok (.getfield 24, 3) := by decide +kernel
theorem dX4_putMark_23 : decode cX4_putMark 23 = .ok (.iconst 1, 1) := by decide +kernel
theorem dX4_putMark_24 : decode cX4_putMark 24 = .ok (.iadd, 1) := by decide +kernel
theorem dX4_putMark_25 : decode cX4_putMark 25 = .ok (.putfield 24, 3) := by decide +kernel
theorem dX4_putMark_28 : decode cX4_putMark 28 = .ok (.return_, 1) := by decide +kernel
theorem dX4_joinRemark_0 : decode cX4_joinRemark 0 = .ok (.iload_n 3, 1) := by decide +kernel
theorem dX4_joinRemark_1 : decode cX4_joinRemark 1 = .ok (.iload_n 2, 1) := by decide +kernel
theorem dX4_joinRemark_2 : decode cX4_joinRemark 2 = .ok (.if_icmp .gt 5, 3) := by decide +kernel
theorem dX4_joinRemark_5 : decode cX4_joinRemark 5 = .ok (.iconst 1, 1) := by decide +kernel
theorem dX4_joinRemark_6 : decode cX4_joinRemark 6 = .ok (.ireturn, 1) := by decide +kernel
theorem dX4_joinRemark_7 : decode cX4_joinRemark 7 = .ok (.aload_n 0, 1) := by decide +kernel
theorem dX4_joinRemark_8 : decode cX4_joinRemark 8 = .ok (.getfield 33, 3) := by decide +kernel
theorem dX4_joinRemark_11 : decode cX4_joinRemark 11 = .ok (.invokevirtual 41, 3) := by decide +kernel
theorem dX4_joinRemark_14 : decode cX4_joinRemark 14 = .ok (.ifCond .le 7, 3) := by decide +kernel
theorem dX4_joinRemark_17 : decode cX4_joinRemark 17 = .ok (.iconst 1, 1) := by decide +kernel
theorem dX4_joinRemark_18 : decode cX4_joinRemark 18 = .ok (.goto 4, 3) := by decide +kernel
theorem dX4_joinRemark_21 : decode cX4_joinRemark 21 = .ok (.iconst 0, 1) := by decide +kernel
theorem dX4_joinRemark_22 : decode cX4_joinRemark 22 = .ok (.istore 4, 2) := by decide +kernel
theorem dX4_joinRemark_24 : decode cX4_joinRemark 24 = .ok (.aload_n 0, 1) := by decide +kernel
theorem dX4_joinRemark_25 : decode cX4_joinRemark 25 = .ok (.getfield 33, 3) := by decide +kernel
theorem dX4_joinRemark_28 : decode cX4_joinRemark 28 = .ok (.invokevirtual 41, 3) := by decide +kernel
theorem dX4_joinRemark_31 : decode cX4_joinRemark 31 = .ok (.iload 4, 2) := by decide +kernel
theorem dX4_joinRemark_33 : decode cX4_joinRemark 33 = .ok (.iadd, 1) := by decide +kernel
theorem dX4_joinRemark_34 : decode cX4_joinRemark 34 = .ok (.iload_n 3, 1) := by decide +kernel
theorem dX4_joinRemark_35 : decode cX4_joinRemark 35 = .ok (.iadd, 1) := by decide +kernel
theorem dX4_joinRemark_36 : decode cX4_joinRemark 36 = .ok (.iload_n 2, 1) := by decide +kernel
theorem dX4_joinRemark_37 : decode cX4_joinRemark 37 = .ok (.isub, 1) := by decide +kernel
theorem dX4_joinRemark_38 : decode cX4_joinRemark 38 = .ok (.sipush 200, 3) := by decide +kernel
theorem dX4_joinRemark_41 : decode cX4_joinRemark 41 = .ok (.if_icmp .le 5, 3) := by decide +kernel
theorem dX4_joinRemark_44 : decode cX4_joinRemark 44 = .ok (.iconst 0, 1) := by decide +kernel
theorem dX4_joinRemark_45 : decode cX4_joinRemark 45 = .ok (.ireturn, 1) := by decide +kernel
theorem dX4_joinRemark_46 : decode cX4_joinRemark 46 = .ok (.iload 4, 2) := by decide +kernel
theorem dX4_joinRemark_48 : decode cX4_joinRemark 48 = .ok (.iconst 1, 1) := by decide +kernel
theorem dX4_joinRemark_49 : decode cX4_joinRemark 49 = .ok (.if_icmp .ne 12, 3) := by decide +kernel
theorem dX4_joinRemark_52 : decode cX4_joinRemark 52 = .ok (.aload_n 0, 1) := by decide +kernel
theorem dX4_joinRemark_53 : decode cX4_joinRemark 53 = .ok (.getfield 33, 3) := by decide +kernel
theorem dX4_joinRemark_56 : decode cX4_joinRemark 56 = .ok (.bipush 32, 2) := by decide +kernel
theorem dX4_joinRemark_58 : decode cX4_joinRemark 58 = .ok (.invokevirtual 45, 3) := by decide +kernel
theorem dX4_joinRemark_61 : decode cX4_joinRemark 61 = .ok (.iload_n 2, 1) := by decide +kernel
theorem dX4_joinRemark_62 : decode cX4_joinRemark 62 = .ok (.istore 5, 2) := by decide +kernel
theorem dX4_joinRemark_64 : decode cX4_joinRemark 64 = .ok (.iload 5, 2) := by decide +kernel
theorem dX4_joinRemark_66 : decode cX4_joinRemark 66 = .ok (.iload_n 3, 1) := by decide +kernel
theorem dX4_joinRemark_67 : decode cX4_joinRemark 67 = .ok (.if_icmp .ge 38, 3) := by decide +kernel
theorem dX4_joinRemark_70 : decode cX4_joinRemark 70 = .ok (.aload_n 0, 1) := by decide +kernel
theorem dX4_joinRemark_71 : decode cX4_joinRemark 71 = .ok (.getfield 33, 3) := by decide +kernel
theorem dX4_joinRemark_74 : decode cX4_joinRemark 74 = .ok (.aload_n 1, 1) := by decide +kernel
theorem dX4_joinRemark_75 : decode cX4_joinRemark 75 = .ok (.iload 5, 2) := by decide +kernel
theorem dX4_joinRemark_77 : decode cX4_joinRemark 77 = .ok (.invokevirtual 49, 3) := by decide +kernel
theorem dX4_joinRemark_80 : decode cX4_joinRemark 80 = .ok (.bipush 10, 2) := by decide +kernel
theorem dX4_joinRemark_82 : decode cX4_joinRemark 82 = .ok (.if_icmp .ne 8, 3) := by decide +kernel
theorem dX4_joinRemark_85 : decode cX4_joinRemark 85 = .ok (.bipush 32, 2) := by decide +kernel
theorem dX4_joinRemark_87 : decode cX4_joinRemark 87 = .ok (.goto 9, 3) := by decide +kernel
theorem dX4_joinRemark_90 : decode cX4_joinRemark 90 = .ok (.aload_n 1, 1) := by decide +kernel
theorem dX4_joinRemark_91 : decode cX4_joinRemark 91 = .ok (.iload 5, 2) := by decide +kernel
theorem dX4_joinRemark_93 : decode cX4_joinRemark 93 = .ok (.invokevirtual 49, 3) := by decide +kernel
theorem dX4_joinRemark_96 : decode cX4_joinRemark 96 = .ok (.invokevirtual 45, 3) := by decide +kernel
theorem dX4_joinRemark_99 : decode cX4_joinRemark 99 = .ok (.iinc 5 1, 3) := by decide +kernel
theorem dX4_joinRemark_102 : decode cX4_joinRemark 102 = .ok (.goto (-38), 3) := by decide +kernel
theorem dX4_joinRemark_105 : decode cX4_joinRemark 105 = .ok (.iconst 1, 1) := by decide +kernel
theorem dX4_joinRemark_106 : decode cX4_joinRemark 106 = .ok (.ireturn, 1) := by decide +kernel
theorem dX5_init_0 : decode cX5_init 0 = .ok (.aload_n 0, 1) := by decide +kernel
theorem dX5_init_1 : decode cX5_init 1 = .ok (.invokespecial 3, 3) := by decide +kernel
theorem dX5_init_4 : decode cX5_init 4 = .ok (.aload_n 0, 1) := by decide +kernel
theorem dX5_init_5 : decode cX5_init 5 = .ok (.new 9, 3) := by decide +kernel
theorem dX5_init_8 : decode cX5_init 8 = .ok (.dup, 1) := by decide +kernel
theorem dX5_init_9 : decode cX5_init 9 = .ok (.invokespecial 11, 3) := by decide +kernel
theorem dX5_init_12 : decode cX5_init 12 = .ok (.putfield 12, 3) := by decide +kernel
theorem dX5_init_15 : decode cX5_init 15 = .ok (.aload_n 0, 1) := by decide +kernel
theorem dX5_init_16 : decode cX5_init 16 = .ok (.iconst 0, 1) := by decide +kernel
theorem dX5_init_17 : decode cX5_init 17 = .ok (.putfield 18, 3) := by decide +kernel
theorem dX5_init_20 : decode cX5_init 20 = .ok (.return_, 1) := by decide +kernel
theorem dX5_readInto_0 : decode cX5_readInto 0 = .ok (.aload_n 0, 1) := by decide +kernel
theorem dX5_readInto_1 : decode cX5_readInto 1 = .ok (.aload_n 2, 1) := by decide +kernel
theorem dX5_readInto_2 : decode cX5_readInto 2 = .ok (.putfield 12, 3) := by decide +kernel
theorem dX5_readInto_5 : decode cX5_readInto 5 = .ok (.aload_n 0, 1) := by decide +kernel
theorem dX5_readInto_6 : decode cX5_readInto 6 = .ok (.iconst 0, 1) := by decide +kernel
theorem dX5_readInto_7 : decode cX5_readInto 7 = .ok (.putfield 18, 3) := by decide +kernel
theorem dX5_readInto_10 : decode cX5_readInto 10 = .ok (.aload_n 1, 1) := by decide +kernel
theorem dX5_readInto_11 : decode cX5_readInto 11 = .ok (.invokevirtual 22, 3) := by decide +kernel
theorem dX5_readInto_14 : decode cX5_readInto 14 = .ok (.aload_n 0, 1) := by decide +kernel
theorem dX5_readInto_15 : decode cX5_readInto 15 = .ok (.aload_n 1, 1) := by decide +kernel
theorem dX5_readInto_16 : decode cX5_readInto 16 = .ok (.invokevirtual 27, 3) := by decide +kernel
theorem dX5_readInto_19 : decode cX5_readInto 19 = .ok (.ifCond .eq 126, 3) := by decide +kernel
theorem dX5_readInto_22 : decode cX5_readInto 22 = .ok (.aload_n 0, 1) := by decide +kernel
theorem dX5_readInto_23 : decode cX5_readInto 23 = .ok (.bipush 32, 2) := by decide +kernel
theorem dX5_readInto_25 : decode cX5_readInto 25 = .ok (.invokevirtual 31, 3) := by decide +kernel
theorem dX5_readInto_28 : decode cX5_readInto 28 = .ok (.ifCond .eq 117, 3) := by decide +kernel
theorem dX5_readInto_31 : decode cX5_readInto 31 = .ok (.aload_n 0, 1) := by decide +kernel
theorem dX5_readInto_32 : decode cX5_readInto 32 = .ok (.aload_n 1, 1) := by decide +kernel
theorem dX5_readInto_33 : decode cX5_readInto 33 = .ok (.invokevirtual 35, 3) := by decide +kernel
theorem dX5_readInto_36 : decode cX5_readInto 36 = .ok (.ifCond .eq 109, 3) := by decide +kernel
theorem dX5_readInto_39 : decode cX5_readInto 39 = .ok (.aload_n 0, 1) := by decide +kernel
theorem dX5_readInto_40 : decode cX5_readInto 40 = .ok (.bipush 32, 2) := by decide +kernel
theorem dX5_readInto_42 : decode cX5_readInto 42 = .ok (.invokevirtual 31, 3) := by decide +kernel
theorem dX5_readInto_45 : decode cX5_readInto 45 = .ok (.ifCond .eq 100, 3) := by decide +kernel
theorem dX5_readInto_48 : decode cX5_readInto 48 = .ok (.aload_n 0, 1) := by decide +kernel
theorem dX5_readInto_49 : decode cX5_readInto 49 = .ok (.aload_n 1, 1) := by decide +kernel
theorem dX5_readInto_50 : decode cX5_readInto 50 = .ok (.invokevirtual 38, 3) := by decide +kernel
theorem dX5_readInto_53 : decode cX5_readInto 53 = .ok (.ifCond .eq 92, 3) := by decide +kernel
theorem dX5_readInto_56 : decode cX5_readInto 56 = .ok (.aload_n 0, 1) := by decide +kernel
theorem dX5_readInto_57 : decode cX5_readInto 57 = .ok (.bipush 32, 2) := by decide +kernel
theorem dX5_readInto_59 : decode cX5_readInto 59 = .ok (.invokevirtual 31, 3) := by decide +kernel
theorem dX5_readInto_62 : decode cX5_readInto 62 = .ok (.ifCond .eq 83, 3) := by decide +kernel
theorem dX5_readInto_65 : decode cX5_readInto 65 = .ok (.aload_n 0, 1) := by decide +kernel
theorem dX5_readInto_66 : decode cX5_readInto 66 = .ok (.aload_n 1, 1) := by decide +kernel
theorem dX5_readInto_67 : decode cX5_readInto 67 = .ok (.invokevirtual 41, 3) := by decide +kernel
theorem dX5_readInto_70 : decode cX5_readInto 70 = .ok (.ifCond .eq 75, 3) := by decide +kernel
theorem dX5_readInto_73 : decode cX5_readInto 73 = .ok (.aload_n 0, 1) := by decide +kernel
theorem dX5_readInto_74 : decode cX5_readInto 74 = .ok (.bipush 32, 2) := by decide +kernel
theorem dX5_readInto_76 : decode cX5_readInto 76 = .ok (.invokevirtual 31, 3) := by decide +kernel
theorem dX5_readInto_79 : decode cX5_readInto 79 = .ok (.ifCond .eq 66, 3) := by decide +kernel
theorem dX5_readInto_82 : decode cX5_readInto 82 = .ok (.aload_n 0, 1) := by decide +kernel
theorem dX5_readInto_83 : decode cX5_readInto 83 = .ok (.invokevirtual 44, 3) := by decide +kernel
theorem dX5_readInto_86 : decode cX5_readInto 86 = .ok (.ifCond .lt 59, 3) := by decide +kernel
theorem dX5_readInto_89 : decode cX5_readInto 89 = .ok (.aload_n 0, 1) := by decide +kernel
theorem dX5_readInto_90 : decode cX5_readInto 90 = .ok (.bipush 32, 2) := by decide +kernel
theorem dX5_readInto_92 : decode cX5_readInto 92 = .ok (.invokevirtual 31, 3) := by decide +kernel
theorem dX5_readInto_95 : decode cX5_readInto 95 = .ok (.ifCond .eq 50, 3) := by decide +kernel
theorem dX5_readInto_98 : decode cX5_readInto 98 = .ok (.aload_n 0, 1) := by decide +kernel
theorem dX5_readInto_99 : decode cX5_readInto 99 = .ok (.aload_n 1, 1) := by decide +kernel
theorem dX5_readInto_100 : decode cX5_readInto 100 = .ok (.invokevirtual 48, 3) := by decide +kernel
theorem dX5_readInto_103 : decode cX5_readInto 103 = .ok (.ifCond .eq 42, 3) := by decide +kernel
theorem dX5_readInto_106 : decode cX5_readInto 106 = .ok (.aload_n 0, 1) := by decide +kernel
theorem dX5_readInto_107 : decode cX5_readInto 107 = .ok (.getfield 18, 3) := by decide +kernel
theorem dX5_readInto_110 : decode cX5_readInto 110 = .ok (.aload_n 0, 1) := by decide +kernel
theorem dX5_readInto_111 : decode cX5_readInto 111 = .ok (.getfield 12, 3) := by decide +kernel
theorem dX5_readInto_114 : decode cX5_readInto 114 = .ok (.invokevirtual 51, 3) := by decide +kernel
theorem dX5_readInto_117 : decode cX5_readInto 117 = .ok (.if_icmp .ne 28, 3) := by decide +kernel
theorem dX5_readInto_120 : decode cX5_readInto 120 = .ok (.aload_n 1, 1) := by decide +kernel
theorem dX5_readInto_121 : decode cX5_readInto 121 = .ok (.invokestatic 54, 3) := by decide +kernel
theorem dX5_readInto_124 : decode cX5_readInto 124 = .ok (.ifCond .eq 21, 3) := by decide +kernel
theorem dX5_readInto_127 : decode cX5_readInto 127 = .ok (.aload_n 1, 1) := by decide +kernel
theorem dX5_readInto_128 : decode cX5_readInto 128 = .ok (.invokestatic 57, 3) := by decide +kernel
theorem dX5_readInto_131 : decode cX5_readInto 131 = .ok (.ifCond .eq 14, 3) := by decide +kernel
theorem dX5_readInto_134 : decode cX5_readInto 134 = .ok (.aload_n 1, 1) := by decide +kernel
theorem dX5_readInto_135 : decode cX5_readInto 135 = .ok (.invokestatic 60, 3) := by decide +kernel
theorem dX5_readInto_138 : decode cX5_readInto 138 = .ok (.ifCond .eq 7, 3) := by decide +kernel
theorem dX5_readInto_141 : decode cX5_readInto 141 = .ok (.iconst 1, 1) := by decide +kernel
theorem dX5_readInto_142 : decode cX5_readInto 142 = .ok (.goto 4, 3) := by decide +kernel
theorem dX5_readInto_145 : decode cX5_readInto 145 = .ok (.iconst 0, 1) := by decide +kernel
theorem dX5_readInto_146 : decode cX5_readInto 146 = .ok (.ireturn, 1) := by decide +kernel
theorem dX5_skip_0 : decode cX5_skip 0 = .ok (.aload_n 0, 1) := by decide +kernel
theorem dX5_skip_1 : decode cX5_skip 1 = .ok (.getfield 12, 3) := by decide +kernel
theorem dX5_skip_4 : decode cX5_skip 4 = .ok (.aload_n 0, 1) := by decide +kernel
theorem dX5_skip_5 : decode cX5_skip 5 = .ok (.getfield 18, 3) := by decide +kernel
theorem dX5_skip_8 : decode cX5_skip 8 = .ok (.invokevirtual 63, 3) := by decide +kernel
theorem dX5_skip_11 : decode cX5_skip 11 = .ok (.iload_n 1, 1) := by decide +kernel
theorem dX5_skip_12 : decode cX5_skip 12 = .ok (.if_icmp .eq 5, 3) := by decide +kernel
theorem dX5_skip_15 : decode cX5_skip 15 = .ok (.iconst 0, 1) := by decide +kernel
theorem dX5_skip_16 : decode cX5_skip 16 = .ok (.ireturn, 1) := by decide +kernel
theorem dX5_skip_17 : decode cX5_skip 17 = .ok (.aload_n 0, 1) := by decide +kernel
theorem dX5_skip_18 : decode cX5_skip 18 = .ok (.dup, 1) := by decide +kernel
theorem dX5_skip_19 : decode cX5_skip 19 = .ok (.getfield 18, 3) := by decide +kernel
theorem dX5_skip_22 : decode cX5_skip 22 = .ok (.iconst 1, 1) := by decide +kernel
theorem dX5_skip_23 : decode cX5_skip 23 = .ok (.iadd, 1) := by decide +kernel
theorem dX5_skip_24 : decode cX5_skip 24 = .ok (.putfield 18, 3) := by decide +kernel
theorem dX5_skip_27 : decode cX5_skip 27 = .ok (.iconst 1, 1) := by decide +kernel
theorem dX5_skip_28 : decode cX5_skip 28 = .ok (.ireturn, 1) := by decide +kernel
theorem dX5_readMen_0 : decode cX5_readMen 0 = .ok (.bipush 7, 2) := by decide +kernel
theorem dX5_readMen_2 : decode cX5_readMen 2 = .ok (.istore_n 2, 1) := by decide +kernel
theorem dX5_readMen_3 : decode cX5_readMen 3 = .ok (.iload_n 2, 1) := by decide +kernel
theorem dX5_readMen_4 : decode cX5_readMen 4 = .ok (.ifCond .lt 38, 3) := by decide +kernel
theorem dX5_readMen_7 : decode cX5_readMen 7 = .ok (.iload_n 2, 1) := by decide +kernel
theorem dX5_readMen_8 : decode cX5_readMen 8 = .ok (.bipush 7, 2) := by decide +kernel
theorem dX5_readMen_10 : decode cX5_readMen 10 = .ok (.if_icmp .ge 12, 3) := by decide +kernel
theorem dX5_readMen_13 : decode cX5_readMen 13 = .ok (.aload_n 0, 1) := by decide +kernel
theorem dX5_readMen_14 : decode cX5_readMen 14 = .ok (.bipush 47, 2) := by decide +kernel
theorem dX5_readMen_16 : decode cX5_readMen 16 = .ok (.invokevirtual 31, 3) := by decide +kernel
theorem dX5_readMen_19 : decode cX5_readMen 19 = .ok (.ifCond .eq 15, 3) := by decide +kernel
theorem dX5_readMen_22 : decode cX5_readMen 22 = .ok (.aload_n 0, 1) := by decide +kernel
theorem dX5_readMen_23 : decode cX5_readMen 23 = .ok (.aload_n 1, 1) := by decide +kernel
theorem dX5_readMen_24 : decode cX5_readMen 24 = .ok (.bipush 8, 2) := by decide +kernel
theorem dX5_readMen_26 : decode cX5_readMen 26 = .ok (.iload_n 2, 1) := by decide +kernel
theorem dX5_readMen_27 : decode cX5_readMen 27 = .ok (.imul, 1) := by decide +kernel
theorem dX5_readMen_28 : decode cX5_readMen 28 = .ok (.invokevirtual 66, 3) := by decide +kernel
theorem dX5_readMen_31 : decode cX5_readMen 31 = .ok (.ifCond .ne 5, 3) := by decide +kernel
theorem dX5_readMen_34 : decode cX5_readMen 34 = .ok (.iconst 0, 1) := by decide +kernel
theorem dX5_readMen_35 : decode cX5_readMen 35 = .ok (.ireturn, 1) := by decide +kernel
theorem dX5_readMen_36 : decode cX5_readMen 36 = .ok (.iinc 2 (-1), 3) := by decide +kernel
theorem dX5_readMen_39 : decode cX5_readMen 39 = .ok (.goto (-36), 3) := by decide +kernel
theorem dX5_readMen_42 : decode cX5_readMen 42 = .ok (.iconst 1, 1) := by decide +kernel
theorem dX5_readMen_43 : decode cX5_readMen 43 = .ok (.ireturn, 1) := by decide +kernel
theorem dX5_readRank_0 : decode cX5_readRank 0 = .ok (.iconst 0, 1) := by decide +kernel
theorem dX5_readRank_1 : decode cX5_readRank 1 = .ok (.istore_n 3, 1) := by decide +kernel
theorem dX5_readRank_2 : decode cX5_readRank 2 = .ok (.iconst 0, 1) := by decide +kernel
theorem dX5_readRank_3 : decode cX5_readRank 3 = .ok (.istore 4, 2) := by decide +kernel
theorem dX5_readRank_5 : decode cX5_readRank 5 = .ok (.iload 4, 2) := by decide +kernel
theorem dX5_readRank_7 : decode cX5_readRank 7 = .ok (.bipush 8, 2) := by decide +kernel
theorem dX5_readRank_9 : decode cX5_readRank 9 = .ok (.if_icmp .ge 115, 3) := by decide +kernel
theorem dX5_readRank_12 : decode cX5_readRank 12 = .ok (.aload_n 0, 1) := by decide +kernel
theorem dX5_readRank_13 : decode cX5_readRank 13 = .ok (.getfield 12, 3) := by decide +kernel
theorem dX5_readRank_16 : decode cX5_readRank 16 = .ok (.aload_n 0, 1) := by decide +kernel
theorem dX5_readRank_17 : decode cX5_readRank 17 = .ok (.getfield 18, 3) := by decide +kernel
theorem dX5_readRank_20 : decode cX5_readRank 20 = .ok (.invokevirtual 63, 3) := by decide +kernel
theorem dX5_readRank_23 : decode cX5_readRank 23 = .ok (.istore 5, 2) := by decide +kernel
theorem dX5_readRank_25 : decode cX5_readRank 25 = .ok (.iload 5, 2) := by decide +kernel
theorem dX5_readRank_27 : decode cX5_readRank 27 = .ok (.invokestatic 70, 3) := by decide +kernel
theorem dX5_readRank_30 : decode cX5_readRank 30 = .ok (.istore 6, 2) := by decide +kernel
theorem dX5_readRank_32 : decode cX5_readRank 32 = .ok (.iload 5, 2) := by decide +kernel
theorem dX5_readRank_34 : decode cX5_readRank 34 = .ok (.invokestatic 73, 3) := by decide +kernel
theorem dX5_readRank_37 : decode cX5_readRank 37 = .ok (.ifCond .eq 15, 3) := by decide +kernel
theorem dX5_readRank_40 : decode cX5_readRank 40 = .ok (.ldc 76, 2) := by decide +kernel
theorem dX5_readRank_42 : decode cX5_readRank 42 = .ok (.iload 5, 2) := by decide +kernel
theorem dX5_readRank_44 : decode cX5_readRank 44 = .ok (.invokevirtual 78, 3) := by decide +kernel
theorem dX5_readRank_47 : decode cX5_readRank 47 = .ok (.iconst 1, 1) := by decide +kernel
theorem dX5_readRank_48 : decode cX5_readRank 48 = .ok (.iadd, 1) := by decide +kernel
theorem dX5_readRank_49 : decode cX5_readRank 49 = .ok (.goto 4, 3) := by decide +kernel
theorem dX5_readRank_52 : decode cX5_readRank 52 = .ok (.iconst 0, 1) := by decide +kernel
theorem dX5_readRank_53 : decode cX5_readRank 53 = .ok (.istore 7, 2) := by decide +kernel
theorem dX5_readRank_55 : decode cX5_readRank 55 = .ok (.iload 6, 2) := by decide +kernel
theorem dX5_readRank_57 : decode cX5_readRank 57 = .ok (.ifCond .eq 10, 3) := by decide +kernel
theorem dX5_readRank_60 : decode cX5_readRank 60 = .ok (.iload_n 3, 1) := by decide +kernel
theorem dX5_readRank_61 : decode cX5_readRank 61 = .ok (.ifCond .eq 13, 3) := by decide +kernel
theorem dX5_readRank_64 : decode cX5_readRank 64 = .ok (.goto 8, 3) := by decide +kernel
theorem dX5_readRank_67 : decode cX5_readRank 67 = .ok (.iload 7, 2) := by decide +kernel
theorem dX5_readRank_69 : decode cX5_readRank 69 = .ok (.ifCond .ne 5, 3) := by decide +kernel
theorem dX5_readRank_72 : decode cX5_readRank 72 = .ok (.iconst 0, 1) := by decide +kernel
theorem dX5_readRank_73 : decode cX5_readRank 73 = .ok (.ireturn, 1) := by decide +kernel
theorem dX5_readRank_74 : decode cX5_readRank 74 = .ok (.iload 6, 2) := by decide +kernel
theorem dX5_readRank_76 : decode cX5_readRank 76 = .ok (.ifCond .ne 13, 3) := by decide +kernel
theorem dX5_readRank_79 : decode cX5_readRank 79 = .ok (.aload_n 1, 1) := by decide +kernel
theorem dX5_readRank_80 : decode cX5_readRank 80 = .ok (.iload_n 2, 1) := by decide +kernel
theorem dX5_readRank_81 : decode cX5_readRank 81 = .ok (.iload 4, 2) := by decide +kernel
theorem dX5_readRank_83 : decode cX5_readRank 83 = .ok (.iadd, 1) := by decide +kernel
theorem dX5_readRank_84 : decode cX5_readRank 84 = .ok (.iload 7, 2) := by decide +kernel
theorem dX5_readRank_86 : decode cX5_readRank 86 = .ok (.invokevirtual 84, 3) := by decide +kernel
theorem dX5_readRank_89 : decode cX5_readRank 89 = .ok (.iload 4, 2) := by decide +kernel
theorem dX5_readRank_91 : decode cX5_readRank 91 = .ok (.iload 6, 2) := by decide +kernel
theorem dX5_readRank_93 : decode cX5_readRank 93 = .ok (.ifCond .eq 11, 3) := by decide +kernel
theorem dX5_readRank_96 : decode cX5_readRank 96 = .ok (.iload 5, 2) := by decide +kernel
theorem dX5_readRank_98 : decode cX5_readRank 98 = .ok (.bipush 48, 2) := by decide +kernel
theorem dX5_readRank_100 : decode cX5_readRank 100 = .ok (.isub, 1) := by decide +kernel
theorem dX5_readRank_101 : decode cX5_readRank 101 = .ok (.goto 4, 3) := by decide +kernel
theorem dX5_readRank_104 : decode cX5_readRank 104 = .ok (.iconst 1, 1) := by decide +kernel
theorem dX5_readRank_105 : decode cX5_readRank 105 = .ok (.iadd, 1) := by decide +kernel
theorem dX5_readRank_106 : decode cX5_readRank 106 = .ok (.istore 4, 2) := by decide +kernel
theorem dX5_readRank_108 : decode cX5_readRank 108 = .ok (.iload 6, 2) := by decide +kernel
theorem dX5_readRank_110 : decode cX5_readRank 110 = .ok (.istore_n 3, 1) := by decide +kernel
theorem dX5_readRank_111 : decode cX5_readRank 111 = .ok (.aload_n 0, 1) := by decide +kernel
theorem dX5_readRank_112 : decode cX5_readRank 112 = .ok (.dup, 1) := by decide +kernel
theorem dX5_readRank_113 : decode cX5_readRank 113 = .ok (.getfield 18, 3) := by decide +kernel
theorem dX5_readRank_116 : decode cX5_readRank 116 = .ok (.iconst 1, 1) := by decide +kernel
theorem dX5_readRank_117 : decode cX5_readRank 117 = .ok (.iadd, 1) := by decide +kernel
theorem dX5_readRank_118 : decode cX5_readRank 118 = .ok (.putfield 18, 3) := by decide +kernel
theorem dX5_readRank_121 : decode cX5_readRank 121 = .ok (.goto (-116), 3) := by decide +kernel
theorem dX5_readRank_124 : decode cX5_readRank 124 = .ok (.iload 4, 2) := by decide +kernel
theorem dX5_readRank_126 : decode cX5_readRank 126 = .ok (.bipush 8, 2) := by decide +kernel
theorem dX5_readRank_128 : decode cX5_readRank 128 = .ok (.if_icmp .ne 7, 3) := by decide +kernel
theorem dX5_readRank_131 : decode cX5_readRank 131 = .ok (.iconst 1, 1) := by decide +kernel
theorem dX5_readRank_132 : decode cX5_readRank 132 = .ok (.goto 4, 3) := by decide +kernel
theorem dX5_readRank_135 : decode cX5_readRank 135 = .ok (.iconst 0, 1) := by decide +kernel
theorem dX5_readRank_136 : decode cX5_readRank 136 = .ok (.ireturn, 1) := by decide +kernel
theorem dX5_readSide_0 : decode cX5_readSide 0 = .ok (.aload_n 1, 1) := by decide +kernel
theorem dX5_readSide_1 : decode cX5_readSide 1 = .ok (.aload_n 0, 1) := by decide +kernel
theorem dX5_readSide_2 : decode cX5_readSide 2 = .ok (.getfield 12, 3) := by decide +kernel
theorem dX5_readSide_5 : decode cX5_readSide 5 = .ok (.aload_n 0, 1) := by decide +kernel
theorem dX5_readSide_6 : decode cX5_readSide 6 = .ok (.getfield 18, 3) := by decide +kernel
theorem dX5_readSide_9 : decode cX5_readSide 9 = .ok (.invokevirtual 63, 3) := by decide +kernel
theorem dX5_readSide_12 : decode cX5_readSide 12 = .ok (.bipush 98, 2) := by decide +kernel
theorem dX5_readSide_14 : decode cX5_readSide 14 = .ok (.if_icmp .ne 7, 3) := by decide +kernel
theorem dX5_readSide_17 : decode cX5_readSide 17 = .ok (.iconst 1, 1) := by decide +kernel
theorem dX5_readSide_18 : decode cX5_readSide 18 = .ok (.goto 4, 3) := by decide +kernel
theorem dX5_readSide_21 : decode cX5_readSide 21 = .ok (.iconst 0, 1) := by decide +kernel
theorem dX5_readSide_22 : decode cX5_readSide 22 = .ok (.putfield 88, 3) := by decide +kernel
theorem dX5_readSide_25 : decode cX5_readSide 25 = .ok (.aload_n 0, 1) := by decide +kernel
theorem dX5_readSide_26 : decode cX5_readSide 26 = .ok (.bipush 119, 2) := by decide +kernel
theorem dX5_readSide_28 : decode cX5_readSide 28 = .ok (.invokevirtual 31, 3) := by decide +kernel
theorem dX5_readSide_31 : decode cX5_readSide 31 = .ok (.ifCond .ne 12, 3) := by decide +kernel
theorem dX5_readSide_34 : decode cX5_readSide 34 = .ok (.aload_n 0, 1) := by decide +kernel
theorem dX5_readSide_35 : decode cX5_readSide 35 = .ok (.bipush 98, 2) := by decide +kernel
theorem dX5_readSide_37 : decode cX5_readSide 37 = .ok (.invokevirtual 31, 3) := by decide +kernel
theorem dX5_readSide_40 : decode cX5_readSide 40 = .ok (.ifCond .eq 7, 3) := by decide +kernel
theorem dX5_readSide_43 : decode cX5_readSide 43 = .ok (.iconst 1, 1) := by decide +kernel
theorem dX5_readSide_44 : decode cX5_readSide 44 = .ok (.goto 4, 3) := by decide +kernel
theorem dX5_readSide_47 : decode cX5_readSide 47 = .ok (.iconst 0, 1) := by decide +kernel
theorem dX5_readSide_48 : decode cX5_readSide 48 = .ok (.ireturn, 1) := by decide +kernel
theorem dX5_readRights_0 : decode cX5_readRights 0 = .ok (.aload_n 0, 1) := by decide +kernel
theorem dX5_readRights_1 : decode cX5_readRights 1 = .ok (.bipush 45, 2) := by decide +kernel
theorem dX5_readRights_3 : decode cX5_readRights 3 = .ok (.invokevirtual 31, 3) := by decide +kernel
theorem dX5_readRights_6 : decode cX5_readRights 6 = .ok (.ifCond .eq 5, 3) := by decide +kernel
theorem dX5_readRights_9 : decode cX5_readRights 9 = .ok (.iconst 1, 1) := by decide +kernel
theorem dX5_readRights_10 : decode cX5_readRights 10 = .ok (.ireturn, 1) := by decide +kernel
theorem dX5_readRights_11 : decode cX5_readRights 11 = .ok (.iconst 0, 1) := by decide +kernel
theorem dX5_readRights_12 : decode cX5_readRights 12 = .ok (.istore_n 2, 1) := by decide +kernel
theorem dX5_readRights_13 : decode cX5_readRights 13 = .ok (.iload_n 2, 1) := by decide +kernel
theorem dX5_readRights_14 : decode cX5_readRights 14 = .ok (.ldc 91, 2) := by decide +kernel
theorem dX5_readRights_16 : decode cX5_readRights 16 = .ok (.invokevirtual 93, 3) := by decide +kernel
theorem dX5_readRights_19 : decode cX5_readRights 19 = .ok (.if_icmp .ge 34, 3) := by decide +kernel
theorem dX5_readRights_22 : decode cX5_readRights 22 = .ok (.aload_n 0, 1) := by decide +kernel
theorem dX5_readRights_23 : decode cX5_readRights 23 = .ok (.ldc 91, 2) := by decide +kernel
theorem dX5_readRights_25 : decode cX5_readRights 25 = .ok (.iload_n 2, 1) := by decide +kernel
theorem dX5_readRights_26 : decode cX5_readRights 26 = .ok (.invokevirtual 96, 3) := by decide +kernel
theorem dX5_readRights_29 : decode cX5_readRights 29 = .ok (.invokevirtual 31, 3) := by decide +kernel
theorem dX5_readRights_32 : decode cX5_readRights 32 = .ok (.ifCond .eq 15, 3) := by decide +kernel
theorem dX5_readRights_35 : decode cX5_readRights 35 = .ok (.aload_n 1, 1) := by decide +kernel
theorem dX5_readRights_36 : decode cX5_readRights 36 = .ok (.dup, 1) := by decide +kernel
theorem dX5_readRights_37 : decode cX5_readRights 37 = .ok (.getfield 99, 3) := by decide +kernel
theorem dX5_readRights_40 : decode cX5_readRights 40 = .ok (.iconst 1, 1) := by decide +kernel
theorem dX5_readRights_41 : decode cX5_readRights 41 = .ok (.iload_n 2, 1) := by decide +kernel
theorem dX5_readRights_42 : decode cX5_readRights 42 = .ok (.ishl, 1) := by decide +kernel
theorem dX5_readRights_43 : decode cX5_readRights 43 = .ok (.ior, 1) := by decide +kernel
theorem dX5_readRights_44 : decode cX5_readRights 44 = .ok (.putfield 99, 3) := by decide +kernel
theorem dX5_readRights_47 : decode cX5_readRights 47 = .ok (.iinc 2 1, 3) := by decide +kernel
theorem dX5_readRights_50 : decode cX5_readRights 50 = .ok (.goto (-37), 3) := by decide +kernel
theorem dX5_readRights_53 : decode cX5_readRights 53 = .ok (.aload_n 1, 1) := by decide +kernel
theorem dX5_readRights_54 : decode cX5_readRights 54 = .ok (.getfield 99, 3) := by decide +kernel
theorem dX5_readRights_57 : decode cX5_readRights 57 = .ok (.ifCond .eq 7, 3) := by decide +kernel
theorem dX5_readRights_60 : decode cX5_readRights 60 = .ok (.iconst 1, 1) := by decide +kernel
theorem dX5_readRights_61 : decode cX5_readRights 61 = .ok (.goto 4, 3) := by decide +kernel
theorem dX5_readRights_64 : decode cX5_readRights 64 = .ok (.iconst 0, 1) := by decide +kernel
theorem dX5_readRights_65 : decode cX5_readRights 65 = .ok (.ireturn, 1) := by decide +kernel
theorem dX5_readPassed_0 : decode cX5_readPassed 0 = .ok (.aload_n 0, 1) := by decide +kernel
theorem dX5_readPassed_1 : decode cX5_readPassed 1 = .ok (.bipush 45, 2) := by decide +kernel
theorem dX5_readPassed_3 : decode cX5_readPassed 3 = .ok (.invokevirtual 31, 3) := by decide +kernel
theorem dX5_readPassed_6 : decode cX5_readPassed 6 = .ok (.ifCond .eq 5, 3) := by decide +kernel
theorem dX5_readPassed_9 : decode cX5_readPassed 9 = .ok (.iconst 1, 1) := by decide +kernel
theorem dX5_readPassed_10 : decode cX5_readPassed 10 = .ok (.ireturn, 1) := by decide +kernel
theorem dX5_readPassed_11 : decode cX5_readPassed 11 = .ok (.aload_n 1, 1) := by decide +kernel
theorem dX5_readPassed_12 : decode cX5_readPassed 12 = .ok (.aload_n 0, 1) := by decide +kernel
theorem dX5_readPassed_13 : decode cX5_readPassed 13 = .ok (.getfield 12, 3) := by decide +kernel
theorem dX5_readPassed_16 : decode cX5_readPassed 16 = .ok (.aload_n 0, 1) := by decide +kernel
theorem dX5_readPassed_17 : decode cX5_readPassed 17 = .ok (.getfield 18, 3) := by decide +kernel
theorem dX5_readPassed_20 : decode cX5_readPassed 20 = .ok (.invokevirtual 63, 3) := by decide +kernel
theorem dX5_readPassed_23 : decode cX5_readPassed 23 = .ok (.aload_n 0, 1) := by decide +kernel
theorem dX5_readPassed_24 : decode cX5_readPassed 24 = .ok (.getfield 12, 3) := by decide +kernel
theorem dX5_readPassed_27 : decode cX5_readPassed 27 = .ok (.aload_n 0, 1) := by decide +kernel
theorem dX5_readPassed_28 : decode cX5_readPassed 28 = .ok (.getfield 18, 3) := by decide +kernel
theorem dX5_readPassed_31 : decode cX5_readPassed 31 = .ok (.iconst 1, 1) := by decide +kernel
theorem dX5_readPassed_32 : decode cX5_readPassed 32 = .ok (.iadd, 1) := by decide +kernel
theorem dX5_readPassed_33 : decode cX5_readPassed 33 = .ok (.invokevirtual 63, 3) := by decide +kernel
theorem dX5_readPassed_36 : decode cX5_readPassed 36 = .ok (.invokestatic 102, 3) := by decide +kernel
theorem dX5_readPassed_39 : decode cX5_readPassed 39 = .ok (.putfield 106, 3) := by decide +kernel
theorem dX5_readPassed_42 : decode cX5_readPassed 42 = .ok (.aload_n 0, 1) := by decide +kernel
theorem dX5_readPassed_43 : decode cX5_readPassed 43 = .ok (.dup, 1) := by decide +kernel
theorem dX5_readPassed_44 : decode cX5_readPassed 44 = .ok (.getfield 18, 3) := by decide +kernel
theorem dX5_readPassed_47 : decode cX5_readPassed 47 = .ok (.iconst 2, 1) := by decide +kernel
theorem dX5_readPassed_48 : decode cX5_readPassed 48 = .ok (.iadd, 1) := by decide +kernel
theorem dX5_readPassed_49 : decode cX5_readPassed 49 = .ok (.putfield 18, 3) := by decide +kernel
theorem dX5_readPassed_52 : decode cX5_readPassed 52 = .ok (.aload_n 1, 1) := by decide +kernel
theorem dX5_readPassed_53 : decode cX5_readPassed 53 = .ok (.getfield 106, 3) := by decide +kernel
theorem dX5_readPassed_56 : decode cX5_readPassed 56 = .ok (.iconst (-1), 1) := by decide +kernel
theorem dX5_readPassed_57 : decode cX5_readPassed 57 = .ok (.if_icmp .eq 7, 3) := by decide +kernel
theorem dX5_readPassed_60 : decode cX5_readPassed 60 = .ok (.iconst 1, 1) := by decide +kernel
theorem dX5_readPassed_61 : decode cX5_readPassed 61 = .ok (.goto 4, 3) := by decide +kernel
theorem dX5_readPassed_64 : decode cX5_readPassed 64 = .ok (.iconst 0, 1) := by decide +kernel
theorem dX5_readPassed_65 : decode cX5_readPassed 65 = .ok (.ireturn, 1) := by decide +kernel
theorem dX5_readNumber_0 : decode cX5_readNumber 0 = .ok (.aload_n 0, 1) := by decide +kernel
theorem dX5_readNumber_1 : decode cX5_readNumber 1 = .ok (.getfield 18, 3) := by decide +kernel
theorem dX5_readNumber_4 : decode cX5_readNumber 4 = .ok (.istore_n 1, 1) := by decide +kernel
theorem dX5_readNumber_5 : decode cX5_readNumber 5 = .ok (.iconst 0, 1) := by decide +kernel
theorem dX5_readNumber_6 : decode cX5_readNumber 6 = .ok (.istore_n 2, 1) := by decide +kernel
theorem dX5_readNumber_7 : decode cX5_readNumber 7 = .ok (.aload_n 0, 1) := by decide +kernel
theorem dX5_readNumber_8 : decode cX5_readNumber 8 = .ok (.getfield 18, 3) := by decide +kernel
theorem dX5_readNumber_11 : decode cX5_readNumber 11 = .ok (.iload_n 1, 1) := by decide +kernel
theorem dX5_readNumber_12 : decode cX5_readNumber 12 = .ok (.iconst 3, 1) := by decide +kernel
theorem dX5_readNumber_13 : decode cX5_readNumber 13 = .ok (.iadd, 1) := by decide +kernel
theorem dX5_readNumber_14 : decode cX5_readNumber 14 = .ok (.if_icmp .ge 53, 3) := by decide +kernel
theorem dX5_readNumber_17 : decode cX5_readNumber 17 = .ok (.aload_n 0, 1) := by decide +kernel
theorem dX5_readNumber_18 : decode cX5_readNumber 18 = .ok (.getfield 12, 3) := by decide +kernel
theorem dX5_readNumber_21 : decode cX5_readNumber 21 = .ok (.aload_n 0, 1) := by decide +kernel
theorem dX5_readNumber_22 : decode cX5_readNumber 22 = .ok (.getfield 18, 3) := by decide +kernel
theorem dX5_readNumber_25 : decode cX5_readNumber 25 = .ok (.invokevirtual 63, 3) := by decide +kernel
theorem dX5_readNumber_28 : decode cX5_readNumber 28 = .ok (.invokestatic 109, 3) := by decide +kernel
theorem dX5_readNumber_31 : decode cX5_readNumber 31 = .ok (.ifCond .eq 36, 3) := by decide +kernel
theorem dX5_readNumber_34 : decode cX5_readNumber 34 = .ok (.bipush 10, 2) := by decide +kernel
theorem dX5_readNumber_36 : decode cX5_readNumber 36 = .ok (.iload_n 2, 1) := by decide +kernel
theorem dX5_readNumber_37 : decode cX5_readNumber 37 = .ok (.imul, 1) := by decide +kernel
theorem dX5_readNumber_38 : decode cX5_readNumber 38 = .ok (.aload_n 0, 1) := by decide +kernel
theorem dX5_readNumber_39 : decode cX5_readNumber 39 = .ok (.getfield 12, 3) := by decide +kernel
theorem dX5_readNumber_42 : decode cX5_readNumber 42 = .ok (.aload_n 0, 1) := by decide +kernel
theorem dX5_readNumber_43 : decode cX5_readNumber 43 = .ok (.getfield 18, 3) := by decide +kernel
theorem dX5_readNumber_46 : decode cX5_readNumber 46 = .ok (.invokevirtual 63, 3) := by decide +kernel
theorem dX5_readNumber_49 : decode cX5_readNumber 49 = .ok (.iadd, 1) := by decide +kernel
theorem dX5_readNumber_50 : decode cX5_readNumber 50 = .ok (.bipush 48, 2) := by decide +kernel
theorem dX5_readNumber_52 : decode cX5_readNumber 52 = .ok (.isub, 1) := by decide +kernel
theorem dX5_readNumber_53 : decode cX5_readNumber 53 = .ok (.istore_n 2, 1) := by decide +kernel
theorem dX5_readNumber_54 : decode cX5_readNumber 54 = .ok (.aload_n 0, 1) := by decide +kernel
theorem dX5_readNumber_55 : decode cX5_readNumber 55 = .ok (.dup, 1) := by decide +kernel
theorem dX5_readNumber_56 : decode cX5_readNumber 56 = .ok (.getfield 18, 3) := by decide +kernel
theorem dX5_readNumber_59 : decode cX5_readNumber 59 = .ok (.iconst 1, 1) := by decide +kernel
theorem dX5_readNumber_60 : decode cX5_readNumber 60 = .ok (.iadd, 1) := by decide +kernel
theorem dX5_readNumber_61 : decode cX5_readNumber 61 = .ok (.putfield 18, 3) := by decide +kernel
theorem dX5_readNumber_64 : decode cX5_readNumber 64 = .ok (.goto (-57), 3) := by decide +kernel
theorem dX5_readNumber_67 : decode cX5_readNumber 67 = .ok (.aload_n 0, 1) := by decide +kernel
theorem dX5_readNumber_68 : decode cX5_readNumber 68 = .ok (.getfield 12, 3) := by decide +kernel
theorem dX5_readNumber_71 : decode cX5_readNumber 71 = .ok (.iload_n 1, 1) := by decide +kernel
theorem dX5_readNumber_72 : decode cX5_readNumber 72 = .ok (.invokevirtual 63, 3) := by decide +kernel
theorem dX5_readNumber_75 : decode cX5_readNumber 75 = .ok (.bipush 48, 2) := by decide +kernel
theorem dX5_readNumber_77 : decode cX5_readNumber 77 = .ok (.if_icmp .ne 17, 3) := by decide +kernel
theorem dX5_readNumber_80 : decode cX5_readNumber 80 = .ok (.aload_n 0, 1) := by decide +kernel
theorem dX5_readNumber_81 : decode cX5_readNumber 81 = .ok (.getfield 18, 3) := by decide +kernel
theorem dX5_readNumber_84 : decode cX5_readNumber 84 = .ok (.iload_n 1, 1) := by decide +kernel
theorem dX5_readNumber_85 : decode cX5_readNumber 85 = .ok (.iconst 1, 1) := by decide +kernel
theorem dX5_readNumber_86 : decode cX5_readNumber 86 = .ok (.iadd, 1) := by decide +kernel
theorem dX5_readNumber_87 : decode cX5_readNumber 87 = .ok (.if_icmp .le 7, 3) := by decide +kernel
theorem dX5_readNumber_90 : decode cX5_readNumber 90 = .ok (.iconst 1, 1) := by decide +kernel
theorem dX5_readNumber_91 : decode cX5_readNumber 91 = .ok (.goto 4, 3) := by decide +kernel
theorem dX5_readNumber_94 : decode cX5_readNumber 94 = .ok (.iconst 0, 1) := by decide +kernel
theorem dX5_readNumber_95 : decode cX5_readNumber 95 = .ok (.istore_n 3, 1) := by decide +kernel
theorem dX5_readNumber_96 : decode cX5_readNumber 96 = .ok (.aload_n 0, 1) := by decide +kernel
theorem dX5_readNumber_97 : decode cX5_readNumber 97 = .ok (.getfield 18, 3) := by decide +kernel
theorem dX5_readNumber_100 : decode cX5_readNumber 100 = .ok (.iload_n 1, 1) := by decide +kernel
theorem dX5_readNumber_101 : decode cX5_readNumber 101 = .ok (.if_icmp .eq 7, 3) := by decide +kernel
theorem dX5_readNumber_104 : decode cX5_readNumber 104 = .ok (.iload_n 3, 1) := by decide +kernel
theorem dX5_readNumber_105 : decode cX5_readNumber 105 = .ok (.ifCond .eq 7, 3) := by decide +kernel
theorem dX5_readNumber_108 : decode cX5_readNumber 108 = .ok (.iconst (-1), 1) := by decide +kernel
theorem dX5_readNumber_109 : decode cX5_readNumber 109 = .ok (.goto 4, 3) := by decide +kernel
theorem dX5_readNumber_112 : decode cX5_readNumber 112 = .ok (.iload_n 2, 1) := by decide +kernel
theorem dX5_readNumber_113 : decode cX5_readNumber 113 = .ok (.ireturn, 1) := by decide +kernel
theorem dX5_readMoveNumber_0 : decode cX5_readMoveNumber 0 = .ok (.aload_n 1, 1) := by decide +kernel
theorem dX5_readMoveNumber_1 : decode cX5_readMoveNumber 1 = .ok (.aload_n 0, 1) := by decide +kernel
theorem dX5_readMoveNumber_2 : decode cX5_readMoveNumber 2 = .ok (.invokevirtual 44, 3) := by decide +kernel
theorem dX5_readMoveNumber_5 : decode cX5_readMoveNumber 5 = .ok (.putfield 112, 3) := by decide +kernel
theorem dX5_readMoveNumber_8 : decode cX5_readMoveNumber 8 = .ok (.aload_n 1, 1) := by decide +kernel
theorem dX5_readMoveNumber_9 : decode cX5_readMoveNumber 9 = .ok (.getfield 112, 3) := by decide +kernel
theorem dX5_readMoveNumber_12 : decode cX5_readMoveNumber 12 = .ok (.ifCond .le 7, 3) := by decide +kernel
theorem dX5_readMoveNumber_15 : decode cX5_readMoveNumber 15 = .ok (.iconst 1, 1) := by decide +kernel
theorem dX5_readMoveNumber_16 : decode cX5_readMoveNumber 16 = .ok (.goto 4, 3) := by decide +kernel
theorem dX5_readMoveNumber_19 : decode cX5_readMoveNumber 19 = .ok (.iconst 0, 1) := by decide +kernel
theorem dX5_readMoveNumber_20 : decode cX5_readMoveNumber 20 = .ok (.ireturn, 1) := by decide +kernel
theorem dX5_hasSoundMen_0 : decode cX5_hasSoundMen 0 = .ok (.iconst 0, 1) := by decide +kernel
theorem dX5_hasSoundMen_1 : decode cX5_hasSoundMen 1 = .ok (.istore_n 1, 1) := by decide +kernel
theorem dX5_hasSoundMen_2 : decode cX5_hasSoundMen 2 = .ok (.iconst 0, 1) := by decide +kernel
theorem dX5_hasSoundMen_3 : decode cX5_hasSoundMen 3 = .ok (.istore_n 2, 1) := by decide +kernel
theorem dX5_hasSoundMen_4 : decode cX5_hasSoundMen 4 = .ok (.iconst 0, 1) := by decide +kernel
theorem dX5_hasSoundMen_5 : decode cX5_hasSoundMen 5 = .ok (.istore_n 3, 1) := by decide +kernel
theorem dX5_hasSoundMen_6 : decode cX5_hasSoundMen 6 = .ok (.iload_n 3, 1) := by decide +kernel
theorem dX5_hasSoundMen_7 : decode cX5_hasSoundMen 7 = .ok (.bipush 64, 2) := by decide +kernel
theorem dX5_hasSoundMen_9 : decode cX5_hasSoundMen 9 = .ok (.if_icmp .ge 70, 3) := by decide +kernel
theorem dX5_hasSoundMen_12 : decode cX5_hasSoundMen 12 = .ok (.iload_n 1, 1) := by decide +kernel
theorem dX5_hasSoundMen_13 : decode cX5_hasSoundMen 13 = .ok (.aload_n 0, 1) := by decide +kernel
theorem dX5_hasSoundMen_14 : decode cX5_hasSoundMen 14 = .ok (.getfield 115, 3) := by decide +kernel
theorem dX5_hasSoundMen_17 : decode cX5_hasSoundMen 17 = .ok (.iload_n 3, 1) := by decide +kernel
theorem dX5_hasSoundMen_18 : decode cX5_hasSoundMen 18 = .ok (.iaload, 1) := by decide +kernel
theorem dX5_hasSoundMen_19 : decode cX5_hasSoundMen 19 = .ok (.bipush 6, 2) := by decide +kernel
theorem dX5_hasSoundMen_21 : decode cX5_hasSoundMen 21 = .ok (.if_icmp .ne 7, 3) := by decide +kernel
theorem dX5_hasSoundMen_24 : decode cX5_hasSoundMen 24 = .ok (.iconst 1, 1) := by decide +kernel
theorem dX5_hasSoundMen_25 : decode cX5_hasSoundMen 25 = .ok (.goto 4, 3) := by decide +kernel
theorem dX5_hasSoundMen_28 : decode cX5_hasSoundMen 28 = .ok (.iconst 0, 1) := by decide +kernel
theorem dX5_hasSoundMen_29 : decode cX5_hasSoundMen 29 = .ok (.iadd, 1) := by decide +kernel
theorem dX5_hasSoundMen_30 : decode cX5_hasSoundMen 30 = .ok (.istore_n 1, 1) := by decide +kernel
theorem dX5_hasSoundMen_31 : decode cX5_hasSoundMen 31 = .ok (.iload_n 2, 1) := by decide +kernel
theorem dX5_hasSoundMen_32 : decode cX5_hasSoundMen 32 = .ok (.aload_n 0, 1) := by decide +kernel
theorem dX5_hasSoundMen_33 : decode cX5_hasSoundMen 33 = .ok (.getfield 115, 3) := by decide +kernel
theorem dX5_hasSoundMen_36 : decode cX5_hasSoundMen 36 = .ok (.iload_n 3, 1) := by decide +kernel
theorem dX5_hasSoundMen_37 : decode cX5_hasSoundMen 37 = .ok (.iaload, 1) := by decide +kernel
theorem dX5_hasSoundMen_38 : decode cX5_hasSoundMen 38 = .ok (.bipush 14, 2) := by decide +kernel
theorem dX5_hasSoundMen_40 : decode cX5_hasSoundMen 40 = .ok (.if_icmp .ne 7, 3) := by decide +kernel
theorem dX5_hasSoundMen_43 : decode cX5_hasSoundMen 43 = .ok (.iconst 1, 1) := by decide +kernel
theorem dX5_hasSoundMen_44 : decode cX5_hasSoundMen 44 = .ok (.goto 4, 3) := by decide +kernel
theorem dX5_hasSoundMen_47 : decode cX5_hasSoundMen 47 = .ok (.iconst 0, 1) := by decide +kernel
theorem dX5_hasSoundMen_48 : decode cX5_hasSoundMen 48 = .ok (.iadd, 1) := by decide +kernel
theorem dX5_hasSoundMen_49 : decode cX5_hasSoundMen 49 = .ok (.istore_n 2, 1) := by decide +kernel
theorem dX5_hasSoundMen_50 : decode cX5_hasSoundMen 50 = .ok (.aload_n 0, 1) := by decide +kernel
theorem dX5_hasSoundMen_51 : decode cX5_hasSoundMen 51 = .ok (.iload_n 3, 1) := by decide +kernel
theorem dX5_hasSoundMen_52 : decode cX5_hasSoundMen 52 = .ok (.invokevirtual 119, 3) := by decide +kernel
theorem dX5_hasSoundMen_55 : decode cX5_hasSoundMen 55 = .ok (.iconst 1, 1) := by decide +kernel
theorem dX5_hasSoundMen_56 : decode cX5_hasSoundMen 56 = .ok (.if_icmp .ne 17, 3) := by decide +kernel
theorem dX5_hasSoundMen_59 : decode cX5_hasSoundMen 59 = .ok (.iload_n 3, 1) := by decide +kernel
theorem dX5_hasSoundMen_60 : decode cX5_hasSoundMen 60 = .ok (.bipush 8, 2) := by decide +kernel
theorem dX5_hasSoundMen_62 : decode cX5_hasSoundMen 62 = .ok (.if_icmp .lt 9, 3) := by decide +kernel
theorem dX5_hasSoundMen_65 : decode cX5_hasSoundMen 65 = .ok (.iload_n 3, 1) := by decide +kernel
theorem dX5_hasSoundMen_66 : decode cX5_hasSoundMen 66 = .ok (.bipush 56, 2) := by decide +kernel
theorem dX5_hasSoundMen_68 : decode cX5_hasSoundMen 68 = .ok (.if_icmp .lt 5, 3) := by decide +kernel
theorem dX5_hasSoundMen_71 : decode cX5_hasSoundMen 71 = .ok (.iconst 0, 1) := by decide +kernel
theorem dX5_hasSoundMen_72 : decode cX5_hasSoundMen 72 = .ok (.ireturn, 1) := by decide +kernel
theorem dX5_hasSoundMen_73 : decode cX5_hasSoundMen 73 = .ok (.iinc 3 1, 3) := by decide +kernel
theorem dX5_hasSoundMen_76 : decode cX5_hasSoundMen 76 = .ok (.goto (-70), 3) := by decide +kernel
theorem dX5_hasSoundMen_79 : decode cX5_hasSoundMen 79 = .ok (.iload_n 1, 1) := by decide +kernel
theorem dX5_hasSoundMen_80 : decode cX5_hasSoundMen 80 = .ok (.iconst 1, 1) := by decide +kernel
theorem dX5_hasSoundMen_81 : decode cX5_hasSoundMen 81 = .ok (.if_icmp .ne 33, 3) := by decide +kernel
theorem dX5_hasSoundMen_84 : decode cX5_hasSoundMen 84 = .ok (.iload_n 2, 1) := by decide +kernel
theorem dX5_hasSoundMen_85 : decode cX5_hasSoundMen 85 = .ok (.iconst 1, 1) := by decide +kernel
theorem dX5_hasSoundMen_86 : decode cX5_hasSoundMen 86 = .ok (.if_icmp .ne 28, 3) := by decide +kernel
theorem dX5_hasSoundMen_89 : decode cX5_hasSoundMen 89 = .ok (.aload_n 0, 1) := by decide +kernel
theorem dX5_hasSoundMen_90 : decode cX5_hasSoundMen 90 = .ok (.aload_n 0, 1) := by decide +kernel
theorem dX5_hasSoundMen_91 : decode cX5_hasSoundMen 91 = .ok (.iconst 1, 1) := by decide +kernel
theorem dX5_hasSoundMen_92 : decode cX5_hasSoundMen 92 = .ok (.aload_n 0, 1) := by decide +kernel
theorem dX5_hasSoundMen_93 : decode cX5_hasSoundMen 93 = .ok (.getfield 88, 3) := by decide +kernel
theorem dX5_hasSoundMen_96 : decode cX5_hasSoundMen 96 = .ok (.isub, 1) := by decide +kernel
theorem dX5_hasSoundMen_97 : decode cX5_hasSoundMen 97 = .ok (.invokevirtual 122, 3) := by decide +kernel
theorem dX5_hasSoundMen_100 : decode cX5_hasSoundMen 100 = .ok (.aload_n 0, 1) := by decide +kernel
theorem dX5_hasSoundMen_101 : decode cX5_hasSoundMen 101 = .ok (.getfield 88, 3) := by decide +kernel
theorem dX5_hasSoundMen_104 : decode cX5_hasSoundMen 104 = .ok (.invokevirtual 125, 3) := by decide +kernel
theorem dX5_hasSoundMen_107 : decode cX5_hasSoundMen 107 = .ok (.ifCond .ne 7, 3) := by decide +kernel
theorem dX5_hasSoundMen_110 : decode cX5_hasSoundMen 110 = .ok (.iconst 1, 1) := by decide +kernel
theorem dX5_hasSoundMen_111 : decode cX5_hasSoundMen 111 = .ok (.goto 4, 3) := by decide +kernel
theorem dX5_hasSoundMen_114 : decode cX5_hasSoundMen 114 = .ok (.iconst 0, 1) := by decide +kernel
theorem dX5_hasSoundMen_115 : decode cX5_hasSoundMen 115 = .ok (.ireturn, 1) := by decide +kernel
theorem dX5_hasSoundRights_0 : decode cX5_hasSoundRights 0 = .ok (.iconst 0, 1) := by decide +kernel
theorem dX5_hasSoundRights_1 : decode cX5_hasSoundRights 1 = .ok (.istore_n 1, 1) := by decide +kernel
theorem dX5_hasSoundRights_2 : decode cX5_hasSoundRights 2 = .ok (.iload_n 1, 1) := by decide +kernel
theorem dX5_hasSoundRights_3 : decode cX5_hasSoundRights 3 = .ok (.ldc 91, 2) := by decide +kernel
theorem dX5_hasSoundRights_5 : decode cX5_hasSoundRights 5 = .ok (.invokevirtual 93, 3) := by decide +kernel
theorem dX5_hasSoundRights_8 : decode cX5_hasSoundRights 8 = .ok (.if_icmp .ge 90, 3) := by decide +kernel
theorem dX5_hasSoundRights_11 : decode cX5_hasSoundRights 11 = .ok (.iload_n 1, 1) := by decide +kernel
theorem dX5_hasSoundRights_12 : decode cX5_hasSoundRights 12 = .ok (.iconst 2, 1) := by decide +kernel
theorem dX5_hasSoundRights_13 : decode cX5_hasSoundRights 13 = .ok (.if_icmp .ge 7, 3) := by decide +kernel
theorem dX5_hasSoundRights_16 : decode cX5_hasSoundRights 16 = .ok (.iconst 0, 1) := by decide +kernel
theorem dX5_hasSoundRights_17 : decode cX5_hasSoundRights 17 = .ok (.goto 5, 3) := by decide +kernel
theorem dX5_hasSoundRights_20 : decode cX5_hasSoundRights 20 = .ok (.bipush 8, 2) := by decide +kernel
theorem dX5_hasSoundRights_22 : decode cX5_hasSoundRights 22 = .ok (.istore_n 2, 1) := by decide +kernel
theorem dX5_hasSoundRights_23 : decode cX5_hasSoundRights 23 = .ok (.iload_n 1, 1) := by decide +kernel
theorem dX5_hasSoundRights_24 : decode cX5_hasSoundRights 24 = .ok (.iconst 2, 1) := by decide +kernel
theorem dX5_hasSoundRights_25 : decode cX5_hasSoundRights 25 = .ok (.if_icmp .ge 7, 3) := by decide +kernel
theorem dX5_hasSoundRights_28 : decode cX5_hasSoundRights 28 = .ok (.iconst 4, 1) := by decide +kernel
theorem dX5_hasSoundRights_29 : decode cX5_hasSoundRights 29 = .ok (.goto 5, 3) := by decide +kernel
theorem dX5_hasSoundRights_32 : decode cX5_hasSoundRights 32 = .ok (.bipush 60, 2) := by decide +kernel
theorem dX5_hasSoundRights_34 : decode cX5_hasSoundRights 34 = .ok (.istore_n 3, 1) := by decide +kernel
theorem dX5_hasSoundRights_35 : decode cX5_hasSoundRights 35 = .ok (.iload_n 1, 1) := by decide +kernel
theorem dX5_hasSoundRights_36 : decode cX5_hasSoundRights 36 = .ok (.iconst 2, 1) := by decide +kernel
theorem dX5_hasSoundRights_37 : decode cX5_hasSoundRights 37 = .ok (.irem, 1) := by decide +kernel
theorem dX5_hasSoundRights_38 : decode cX5_hasSoundRights 38 = .ok (.ifCond .ne 9, 3) := by decide +kernel
theorem dX5_hasSoundRights_41 : decode cX5_hasSoundRights 41 = .ok (.iload_n 3, 1) := by decide +kernel
theorem dX5_hasSoundRights_42 : decode cX5_hasSoundRights 42 = .ok (.iconst 3, 1) := by decide +kernel
theorem dX5_hasSoundRights_43 : decode cX5_hasSoundRights 43 = .ok (.iadd, 1) := by decide +kernel
theorem dX5_hasSoundRights_44 : decode cX5_hasSoundRights 44 = .ok (.goto 6, 3) := by decide +kernel
theorem dX5_hasSoundRights_47 : decode cX5_hasSoundRights 47 = .ok (.iload_n 3, 1) := by decide +kernel
theorem dX5_hasSoundRights_48 : decode cX5_hasSoundRights 48 = .ok (.iconst 4, 1) := by decide +kernel
theorem dX5_hasSoundRights_49 : decode cX5_hasSoundRights 49 = .ok (.isub, 1) := by decide +kernel
theorem dX5_hasSoundRights_50 : decode cX5_hasSoundRights 50 = .ok (.istore 4, 2) := by decide +kernel
theorem dX5_hasSoundRights_52 : decode cX5_hasSoundRights 52 = .ok (.aload_n 0, 1) := by decide +kernel
theorem dX5_hasSoundRights_53 : decode cX5_hasSoundRights 53 = .ok (.getfield 99, 3) := by decide +kernel
theorem dX5_hasSoundRights_56 : decode cX5_hasSoundRights 56 = .ok (.iload_n 1, 1) := by decide +kernel
theorem dX5_hasSoundRights_57 : decode cX5_hasSoundRights 57 = .ok (.ishr, 1) := by decide +kernel
theorem dX5_hasSoundRights_58 : decode cX5_hasSoundRights 58 = .ok (.iconst 1, 1) := by decide +kernel
theorem dX5_hasSoundRights_59 : decode cX5_hasSoundRights 59 = .ok (.iand, 1) := by decide +kernel
theorem dX5_hasSoundRights_60 : decode cX5_hasSoundRights 60 = .ok (.iconst 1, 1) := by decide +kernel
theorem dX5_hasSoundRights_61 : decode cX5_hasSoundRights 61 = .ok (.if_icmp .ne 31, 3) := by decide +kernel
theorem dX5_hasSoundRights_64 : decode cX5_hasSoundRights 64 = .ok (.aload_n 0, 1) := by decide +kernel
theorem dX5_hasSoundRights_65 : decode cX5_hasSoundRights 65 = .ok (.getfield 115, 3) := by decide +kernel
theorem dX5_hasSoundRights_68 : decode cX5_hasSoundRights 68 = .ok (.iload_n 3, 1) := by decide +kernel
theorem dX5_hasSoundRights_69 : decode cX5_hasSoundRights 69 = .ok (.iaload, 1) := by decide +kernel
theorem dX5_hasSoundRights_70 : decode cX5_hasSoundRights 70 = .ok (.bipush 6, 2) := by decide +kernel
theorem dX5_hasSoundRights_72 : decode cX5_hasSoundRights 72 = .ok (.iload_n 2, 1) := by decide +kernel
theorem dX5_hasSoundRights_73 : decode cX5_hasSoundRights 73 = .ok (.iadd, 1) := by decide +kernel
theorem dX5_hasSoundRights_74 : decode cX5_hasSoundRights 74 = .ok (.if_icmp .ne 16, 3) := by decide +kernel
theorem dX5_hasSoundRights_77 : decode cX5_hasSoundRights 77 = .ok (.aload_n 0, 1) := by decide +kernel
theorem dX5_hasSoundRights_78 : decode cX5_hasSoundRights 78 = .ok (.getfield 115, 3) := by decide +kernel
theorem dX5_hasSoundRights_81 : decode cX5_hasSoundRights 81 = .ok (.iload 4, 2) := by decide +kernel
theorem dX5_hasSoundRights_83 : decode cX5_hasSoundRights 83 = .ok (.iaload, 1) := by decide +kernel
theorem dX5_hasSoundRights_84 : decode cX5_hasSoundRights 84 = .ok (.iconst 4, 1) := by decide +kernel
theorem dX5_hasSoundRights_85 : decode cX5_hasSoundRights 85 = .ok (.iload_n 2, 1) := by decide +kernel
theorem dX5_hasSoundRights_86 : decode cX5_hasSoundRights 86 = .ok (.iadd, 1) := by decide +kernel
theorem dX5_hasSoundRights_87 : decode cX5_hasSoundRights 87 = .ok (.if_icmp .eq 5, 3) := by decide +kernel
theorem dX5_hasSoundRights_90 : decode cX5_hasSoundRights 90 = .ok (.iconst 0, 1) := by decide +kernel
theorem dX5_hasSoundRights_91 : decode cX5_hasSoundRights 91 = .ok (.ireturn, 1) := by decide +kernel
theorem dX5_hasSoundRights_92 : decode cX5_hasSoundRights 92 = .ok (.iinc 1 1, 3) := by decide +kernel
theorem dX5_hasSoundRights_95 : decode cX5_hasSoundRights 95 = .ok (.goto (-93), 3) := by decide +kernel
theorem dX5_hasSoundRights_98 : decode cX5_hasSoundRights 98 = .ok (.iconst 1, 1) := by decide +kernel
theorem dX5_hasSoundRights_99 : decode cX5_hasSoundRights 99 = .ok (.ireturn, 1) := by decide +kernel
theorem dX5_hasSoundPassed_0 : decode cX5_hasSoundPassed 0 = .ok (.aload_n 0, 1) := by decide +kernel
theorem dX5_hasSoundPassed_1 : decode cX5_hasSoundPassed 1 = .ok (.getfield 106, 3) := by decide +kernel
theorem dX5_hasSoundPassed_4 : decode cX5_hasSoundPassed 4 = .ok (.istore_n 1, 1) := by decide +kernel
theorem dX5_hasSoundPassed_5 : decode cX5_hasSoundPassed 5 = .ok (.iload_n 1, 1) := by decide +kernel
theorem dX5_hasSoundPassed_6 : decode cX5_hasSoundPassed 6 = .ok (.iconst (-1), 1) := by decide +kernel
theorem dX5_hasSoundPassed_7 : decode cX5_hasSoundPassed 7 = .ok (.if_icmp .ne 5, 3) := by decide +kernel
theorem dX5_hasSoundPassed_10 : decode cX5_hasSoundPassed 10 = .ok (.iconst 1, 1) := by decide +kernel
theorem dX5_hasSoundPassed_11 : decode cX5_hasSoundPassed 11 = .ok (.ireturn, 1) := by decide +kernel
theorem dX5_hasSoundPassed_12 : decode cX5_hasSoundPassed 12 = .ok (.aload_n 0, 1) := by decide +kernel
theorem dX5_hasSoundPassed_13 : decode cX5_hasSoundPassed 13 = .ok (.getfield 88, 3) := by decide +kernel
theorem dX5_hasSoundPassed_16 : decode cX5_hasSoundPassed 16 = .ok (.ifCond .ne 7, 3) := by decide +kernel
theorem dX5_hasSoundPassed_19 : decode cX5_hasSoundPassed 19 = .ok (.iconst 1, 1) := by decide +kernel
theorem dX5_hasSoundPassed_20 : decode cX5_hasSoundPassed 20 = .ok (.goto 4, 3) := by decide +kernel
theorem dX5_hasSoundPassed_23 : decode cX5_hasSoundPassed 23 = .ok (.iconst 0, 1) := by decide +kernel
theorem dX5_hasSoundPassed_24 : decode cX5_hasSoundPassed 24 = .ok (.istore_n 2, 1) := by decide +kernel
theorem dX5_hasSoundPassed_25 : decode cX5_hasSoundPassed 25 = .ok (.iload_n 1, 1) := by decide +kernel
theorem dX5_hasSoundPassed_26 : decode cX5_hasSoundPassed 26 = .ok (.iconst 3, 1) := by decide +kernel
theorem dX5_hasSoundPassed_27 : decode cX5_hasSoundPassed 27 = .ok (.ishr, 1) := by decide +kernel
theorem dX5_hasSoundPassed_28 : decode cX5_hasSoundPassed 28 = .ok (.iload_n 2, 1) := by decide +kernel
theorem dX5_hasSoundPassed_29 : decode cX5_hasSoundPassed 29 = .ok (.ifCond .eq 7, 3) := by decide +kernel
theorem dX5_hasSoundPassed_32 : decode cX5_hasSoundPassed 32 = .ok (.iconst 5, 1) := by decide +kernel
theorem dX5_hasSoundPassed_33 : decode cX5_hasSoundPassed 33 = .ok (.goto 4, 3) := by decide +kernel
theorem dX5_hasSoundPassed_36 : decode cX5_hasSoundPassed 36 = .ok (.iconst 2, 1) := by decide +kernel
theorem dX5_hasSoundPassed_37 : decode cX5_hasSoundPassed 37 = .ok (.if_icmp .ne 12, 3) := by decide +kernel
theorem dX5_hasSoundPassed_40 : decode cX5_hasSoundPassed 40 = .ok (.aload_n 0, 1) := by decide +kernel
theorem dX5_hasSoundPassed_41 : decode cX5_hasSoundPassed 41 = .ok (.getfield 115, 3) := by decide +kernel
theorem dX5_hasSoundPassed_44 : decode cX5_hasSoundPassed 44 = .ok (.iload_n 1, 1) := by decide +kernel
theorem dX5_hasSoundPassed_45 : decode cX5_hasSoundPassed 45 = .ok (.iaload, 1) := by decide +kernel
theorem dX5_hasSoundPassed_46 : decode cX5_hasSoundPassed 46 = .ok (.ifCond .eq 5, 3) := by decide +kernel
theorem dX5_hasSoundPassed_49 : decode cX5_hasSoundPassed 49 = .ok (.iconst 0, 1) := by decide +kernel
theorem dX5_hasSoundPassed_50 : decode cX5_hasSoundPassed 50 = .ok (.ireturn, 1) := by decide +kernel
theorem dX5_hasSoundPassed_51 : decode cX5_hasSoundPassed 51 = .ok (.iload_n 2, 1) := by decide +kernel
theorem dX5_hasSoundPassed_52 : decode cX5_hasSoundPassed 52 = .ok (.ifCond .eq 8, 3) := by decide +kernel
theorem dX5_hasSoundPassed_55 : decode cX5_hasSoundPassed 55 = .ok (.bipush (-8), 2) := by decide +kernel
theorem dX5_hasSoundPassed_57 : decode cX5_hasSoundPassed 57 = .ok (.goto 5, 3) := by decide +kernel
theorem dX5_hasSoundPassed_60 : decode cX5_hasSoundPassed 60 = .ok (.bipush 8, 2) := by decide +kernel
theorem dX5_hasSoundPassed_62 : decode cX5_hasSoundPassed 62 = .ok (.istore_n 3, 1) := by decide +kernel
theorem dX5_hasSoundPassed_63 : decode cX5_hasSoundPassed 63 = .ok (.aload_n 0, 1) := by decide +kernel
theorem dX5_hasSoundPassed_64 : decode cX5_hasSoundPassed 64 = .ok (.getfield 115, 3) := by decide +kernel
theorem dX5_hasSoundPassed_67 : decode cX5_hasSoundPassed 67 = .ok (.iload_n 1, 1) := by decide +kernel
theorem dX5_hasSoundPassed_68 : decode cX5_hasSoundPassed 68 = .ok (.iload_n 3, 1) := by decide +kernel
theorem dX5_hasSoundPassed_69 : decode cX5_hasSoundPassed 69 = .ok (.iadd, 1) := by decide +kernel
theorem dX5_hasSoundPassed_70 : decode cX5_hasSoundPassed 70 = .ok (.iaload, 1) := by decide +kernel
theorem dX5_hasSoundPassed_71 : decode cX5_hasSoundPassed 71 = .ok (.iconst 1, 1) := by decide +kernel
theorem dX5_hasSoundPassed_72 : decode cX5_hasSoundPassed 72 = .ok (.bipush 8, 2) := by decide +kernel
theorem dX5_hasSoundPassed_74 : decode cX5_hasSoundPassed 74 = .ok (.iconst 1, 1) := by decide +kernel
theorem dX5_hasSoundPassed_75 : decode cX5_hasSoundPassed 75 = .ok (.aload_n 0, 1) := by decide +kernel
theorem dX5_hasSoundPassed_76 : decode cX5_hasSoundPassed 76 = .ok (.getfield 88, 3) := by decide +kernel
theorem dX5_hasSoundPassed_79 : decode cX5_hasSoundPassed 79 = .ok (.isub, 1) := by decide +kernel
theorem dX5_hasSoundPassed_80 : decode cX5_hasSoundPassed 80 = .ok (.imul, 1) := by decide +kernel
theorem dX5_hasSoundPassed_81 : decode cX5_hasSoundPassed 81 = .ok (.iadd, 1) := by decide +kernel
theorem dX5_hasSoundPassed_82 : decode cX5_hasSoundPassed 82 = .ok (.if_icmp .ne 30, 3) := by decide +kernel
theorem dX5_hasSoundPassed_85 : decode cX5_hasSoundPassed 85 = .ok (.aload_n 0, 1) := by decide +kernel
theorem dX5_hasSoundPassed_86 : decode cX5_hasSoundPassed 86 = .ok (.getfield 115, 3) := by decide +kernel
theorem dX5_hasSoundPassed_89 : decode cX5_hasSoundPassed 89 = .ok (.iload_n 1, 1) := by decide +kernel
theorem dX5_hasSoundPassed_90 : decode cX5_hasSoundPassed 90 = .ok (.iload_n 3, 1) := by decide +kernel
theorem dX5_hasSoundPassed_91 : decode cX5_hasSoundPassed 91 = .ok (.isub, 1) := by decide +kernel
theorem dX5_hasSoundPassed_92 : decode cX5_hasSoundPassed 92 = .ok (.iaload, 1) := by decide +kernel
theorem dX5_hasSoundPassed_93 : decode cX5_hasSoundPassed 93 = .ok (.ifCond .ne 19, 3) := by decide +kernel
theorem dX5_hasSoundPassed_96 : decode cX5_hasSoundPassed 96 = .ok (.aload_n 0, 1) := by decide +kernel
theorem dX5_hasSoundPassed_97 : decode cX5_hasSoundPassed 97 = .ok (.iload_n 1, 1) := by decide +kernel
theorem dX5_hasSoundPassed_98 : decode cX5_hasSoundPassed 98 = .ok (.aload_n 0, 1) := by decide +kernel
theorem dX5_hasSoundPassed_99 : decode cX5_hasSoundPassed 99 = .ok (.getfield 88, 3) := by decide +kernel
theorem dX5_hasSoundPassed_102 : decode cX5_hasSoundPassed 102 = .ok (.invokevirtual 129, 3) := by decide +kernel
theorem dX5_hasSoundPassed_105 : decode cX5_hasSoundPassed 105 = .ok (.ifCond .eq 7, 3) := by decide +kernel
theorem dX5_hasSoundPassed_108 : decode cX5_hasSoundPassed 108 = .ok (.iconst 1, 1) := by decide +kernel
theorem dX5_hasSoundPassed_109 : decode cX5_hasSoundPassed 109 = .ok (.goto 4, 3) := by decide +kernel
theorem dX5_hasSoundPassed_112 : decode cX5_hasSoundPassed 112 = .ok (.iconst 0, 1) := by decide +kernel
theorem dX5_hasSoundPassed_113 : decode cX5_hasSoundPassed 113 = .ok (.ireturn, 1) := by decide +kernel
