theorem dX6_init_0 : decode cX6_init 0 = .ok (.aload_n 0, 1) := by decide +kernel
theorem dX6_init_1 : decode cX6_init 1 = .ok (.invokespecial 1, 3) := by decide +kernel
theorem dX6_init_4 : decode cX6_init 4 = .ok (.aload_n 0, 1) := by decide +kernel
theorem dX6_init_5 : decode cX6_init 5 = .ok (.getstatic 7, 3) := by decide +kernel
theorem dX6_init_8 : decode cX6_init 8 = .ok (.putfield 13, 3) := by decide +kernel
theorem dX6_init_11 : decode cX6_init 11 = .ok (.aload_n 0, 1) := by decide +kernel
theorem dX6_init_12 : decode cX6_init 12 = .ok (.iconst 0, 1) := by decide +kernel
theorem dX6_init_13 : decode cX6_init 13 = .ok (.putfield 16, 3) := by decide +kernel
theorem dX6_init_16 : decode cX6_init 16 = .ok (.return_, 1) := by decide +kernel
theorem dX6_size_0 : decode cX6_size 0 = .ok (.aload_n 0, 1) := by decide +kernel
theorem dX6_size_1 : decode cX6_size 1 = .ok (.getfield 16, 3) := by decide +kernel
theorem dX6_size_4 : decode cX6_size 4 = .ok (.ireturn, 1) := by decide +kernel
theorem dX6_at_0 : decode cX6_at 0 = .ok (.iload_n 1, 1) := by decide +kernel
theorem dX6_at_1 : decode cX6_at 1 = .ok (.ifCond .lt 20, 3) := by decide +kernel
theorem dX6_at_4 : decode cX6_at 4 = .ok (.iload_n 1, 1) := by decide +kernel
theorem dX6_at_5 : decode cX6_at 5 = .ok (.aload_n 0, 1) := by decide +kernel
theorem dX6_at_6 : decode cX6_at 6 = .ok (.getfield 16, 3) := by decide +kernel
theorem dX6_at_9 : decode cX6_at 9 = .ok (.if_icmp .ge 12, 3) := by decide +kernel
theorem dX6_at_12 : decode cX6_at 12 = .ok (.aload_n 0, 1) := by decide +kernel
theorem dX6_at_13 : decode cX6_at 13 = .ok (.getfield 13, 3) := by decide +kernel
theorem dX6_at_16 : decode cX6_at 16 = .ok (.iload_n 1, 1) := by decide +kernel
theorem dX6_at_17 : decode cX6_at 17 = .ok (.caload, 1) := by decide +kernel
theorem dX6_at_18 : decode cX6_at 18 = .ok (.goto 4, 3) := by decide +kernel
theorem dX6_at_21 : decode cX6_at 21 = .ok (.iconst 0, 1) := by decide +kernel
theorem dX6_at_22 : decode cX6_at 22 = .ok (.ireturn, 1) := by decide +kernel
theorem dX6_keep_0 : decode cX6_keep 0 = .ok (.iload_n 1, 1) := by decide +kernel
theorem dX6_keep_1 : decode cX6_keep 1 = .ok (.ifCond .lt 16, 3) := by decide +kernel
theorem dX6_keep_4 : decode cX6_keep 4 = .ok (.iload_n 1, 1) := by decide +kernel
theorem dX6_keep_5 : decode cX6_keep 5 = .ok (.aload_n 0, 1) := by decide +kernel
theorem dX6_keep_6 : decode cX6_keep 6 = .ok (.getfield 16, 3) := by decide +kernel
theorem dX6_keep_9 : decode cX6_keep 9 = .ok (.if_icmp .ge 8, 3) := by decide +kernel
theorem dX6_keep_12 : decode cX6_keep 12 = .ok (.aload_n 0, 1) := by decide +kernel
theorem dX6_keep_13 : decode cX6_keep 13 = .ok (.iload_n 1, 1) := by decide +kernel
theorem dX6_keep_14 : decode cX6_keep 14 = .ok (.putfield 16, 3) := by decide +kernel
theorem dX6_keep_17 : decode cX6_keep 17 = .ok (.return_, 1) := by decide +kernel
theorem dX6_put_0 : decode cX6_put 0 = .ok (.aload_n 0, 1) := by decide +kernel
theorem dX6_put_1 : decode cX6_put 1 = .ok (.getfield 16, 3) := by decide +kernel
theorem dX6_put_4 : decode cX6_put 4 = .ok (.aload_n 0, 1) := by decide +kernel
theorem dX6_put_5 : decode cX6_put 5 = .ok (.getfield 13, 3) := by decide +kernel
theorem dX6_put_8 : decode cX6_put 8 = .ok (.arraylength, 1) := by decide +kernel
theorem dX6_put_9 : decode cX6_put 9 = .ok (.if_icmp .lt 34, 3) := by decide +kernel
theorem dX6_put_12 : decode cX6_put 12 = .ok (.iconst 2, 1) := by decide +kernel
theorem dX6_put_13 : decode cX6_put 13 = .ok (.aload_n 0, 1) := by decide +kernel
theorem dX6_put_14 : decode cX6_put 14 = .ok (.getfield 16, 3) := by decide +kernel
theorem dX6_put_17 : decode cX6_put 17 = .ok (.imul, 1) := by decide +kernel
theorem dX6_put_18 : decode cX6_put 18 = .ok (.bipush 8, 2) := by decide +kernel
theorem dX6_put_20 : decode cX6_put 20 = .ok (.iadd, 1) := by decide +kernel
theorem dX6_put_21 : decode cX6_put 21 = .ok (.newarray .char, 2) := by decide +kernel
theorem dX6_put_23 : decode cX6_put 23 = .ok (.astore_n 2, 1) := by decide +kernel
theorem dX6_put_24 : decode cX6_put 24 = .ok (.aload_n 0, 1) := by decide +kernel
theorem dX6_put_25 : decode cX6_put 25 = .ok (.getfield 13, 3) := by decide +kernel
theorem dX6_put_28 : decode cX6_put 28 = .ok (.iconst 0, 1) := by decide +kernel
theorem dX6_put_29 : decode cX6_put 29 = .ok (.aload_n 2, 1) := by decide +kernel
theorem dX6_put_30 : decode cX6_put 30 = .ok (.iconst 0, 1) := by decide +kernel
theorem dX6_put_31 : decode cX6_put 31 = .ok (.aload_n 0, 1) := by decide +kernel
theorem dX6_put_32 : decode cX6_put 32 = .ok (.getfield 16, 3) := by decide +kernel
theorem dX6_put_35 : decode cX6_put 35 = .ok (.invokestatic 20, 3) := by decide +kernel
theorem dX6_put_38 : decode cX6_put 38 = .ok (.aload_n 0, 1) := by decide +kernel
theorem dX6_put_39 : decode cX6_put 39 = .ok (.aload_n 2, 1) := by decide +kernel
theorem dX6_put_40 : decode cX6_put 40 = .ok (.putfield 13, 3) := by decide +kernel
theorem dX6_put_43 : decode cX6_put 43 = .ok (.aload_n 0, 1) := by decide +kernel
theorem dX6_put_44 : decode cX6_put 44 = .ok (.getfield 13, 3) := by decide +kernel
theorem dX6_put_47 : decode cX6_put 47 = .ok (.aload_n 0, 1) := by decide +kernel
theorem dX6_put_48 : decode cX6_put 48 = .ok (.getfield 16, 3) := by decide +kernel
theorem dX6_put_51 : decode cX6_put 51 = .ok (.iload_n 1, 1) := by decide +kernel
theorem dX6_put_52 : decode cX6_put 52 = .ok (.castore, 1) := by decide +kernel
theorem dX6_put_53 : decode cX6_put 53 = .ok (.aload_n 0, 1) := by decide +kernel
theorem dX6_put_54 : decode cX6_put 54 = .ok (.dup, 1) := by decide +kernel
theorem dX6_put_55 : decode cX6_put 55 = .ok (.getfield 16, 3) := by decide +kernel
theorem dX6_put_58 : decode cX6_put 58 = .ok (.iconst 1, 1) := by decide +kernel
theorem dX6_put_59 : decode cX6_put 59 = .ok (.iadd, 1) := by decide +kernel
theorem dX6_put_60 : decode cX6_put 60 = .ok (.putfield 16, 3) := by decide +kernel
theorem dX6_put_63 : decode cX6_put 63 = .ok (.return_, 1) := by decide +kernel
theorem dX6_putText_0 : decode cX6_putText 0 = .ok (.iconst 0, 1) := by decide +kernel
theorem dX6_putText_1 : decode cX6_putText 1 = .ok (.istore_n 2, 1) := by decide +kernel
theorem dX6_putText_2 : decode cX6_putText 2 = .ok (.iload_n 2, 1) := by decide +kernel
theorem dX6_putText_3 : decode cX6_putText 3 = .ok (.aload_n 1, 1) := by decide +kernel
theorem dX6_putText_4 : decode cX6_putText 4 = .ok (.invokevirtual 26, 3) := by decide +kernel
theorem dX6_putText_7 : decode cX6_putText 7 = .ok (.if_icmp .ge 18, 3) := by decide +kernel
theorem dX6_putText_10 : decode cX6_putText 10 = .ok (.aload_n 0, 1) := by decide +kernel
theorem dX6_putText_11 : decode cX6_putText 11 = .ok (.aload_n 1, 1) := by decide +kernel
theorem dX6_putText_12 : decode cX6_putText 12 = .ok (.iload_n 2, 1) := by decide +kernel
theorem dX6_putText_13 : decode cX6_putText 13 = .ok (.invokevirtual 31, 3) := by decide +kernel
theorem dX6_putText_16 : decode cX6_putText 16 = .ok (.invokevirtual 35, 3) := by decide +kernel
theorem dX6_putText_19 : decode cX6_putText 19 = .ok (.iinc 2 1, 3) := by decide +kernel
theorem dX6_putText_22 : decode cX6_putText 22 = .ok (.goto (-20), 3) := by decide +kernel
theorem dX6_putText_25 : decode cX6_putText 25 = .ok (.return_, 1) := by decide +kernel
theorem dX6_putNumber_0 : decode cX6_putNumber 0 = .ok (.iconst 1, 1) := by decide +kernel
theorem dX6_putNumber_1 : decode cX6_putNumber 1 = .ok (.istore_n 2, 1) := by decide +kernel
theorem dX6_putNumber_2 : decode cX6_putNumber 2 = .ok (.iconst 0, 1) := by decide +kernel
theorem dX6_putNumber_3 : decode cX6_putNumber 3 = .ok (.istore_n 3, 1) := by decide +kernel
theorem dX6_putNumber_4 : decode cX6_putNumber 4 = .ok (.iload_n 3, 1) := by decide +kernel
theorem dX6_putNumber_5 : decode cX6_putNumber 5 = .ok (.bipush 9, 2) := by decide +kernel
theorem dX6_putNumber_7 : decode cX6_putNumber 7 = .ok (.if_icmp .ge 22, 3) := by decide +kernel
theorem dX6_putNumber_10 : decode cX6_putNumber 10 = .ok (.iload_n 1, 1) := by decide +kernel
theorem dX6_putNumber_11 : decode cX6_putNumber 11 = .ok (.iload_n 2, 1) := by decide +kernel
theorem dX6_putNumber_12 : decode cX6_putNumber 12 = .ok (.idiv, 1) := by decide +kernel
theorem dX6_putNumber_13 : decode cX6_putNumber 13 = .ok (.bipush 10, 2) := by decide +kernel
theorem dX6_putNumber_15 : decode cX6_putNumber 15 = .ok (.if_icmp .lt 14, 3) := by decide +kernel
theorem dX6_putNumber_18 : decode cX6_putNumber 18 = .ok (.iload_n 2, 1) := by decide +kernel
theorem dX6_putNumber_19 : decode cX6_putNumber 19 = .ok (.bipush 10, 2) := by decide +kernel
theorem dX6_putNumber_21 : decode cX6_putNumber 21 = .ok (.imul, 1) := by decide +kernel
theorem dX6_putNumber_22 : decode cX6_putNumber 22 = .ok (.istore_n 2, 1) := by decide +kernel
theorem dX6_putNumber_23 : decode cX6_putNumber 23 = .ok (.iinc 3 1, 3) := by decide +kernel
theorem dX6_putNumber_26 : decode cX6_putNumber 26 = .ok (.goto (-22), 3) := by decide +kernel
theorem dX6_putNumber_29 : decode cX6_putNumber 29 = .ok (.iload_n 2, 1) := by decide +kernel
theorem dX6_putNumber_30 : decode cX6_putNumber 30 = .ok (.ifCond .le 25, 3) := by decide +kernel
theorem dX6_putNumber_33 : decode cX6_putNumber 33 = .ok (.aload_n 0, 1) := by decide +kernel
theorem dX6_putNumber_34 : decode cX6_putNumber 34 = .ok (.bipush 48, 2) := by decide +kernel
theorem dX6_putNumber_36 : decode cX6_putNumber 36 = .ok (.iload_n 1, 1) := by decide +kernel
theorem dX6_putNumber_37 : decode cX6_putNumber 37 = .ok (.iload_n 2, 1) := by decide +kernel
theorem dX6_putNumber_38 : decode cX6_putNumber 38 = .ok (.idiv, 1) := by decide +kernel
theorem dX6_putNumber_39 : decode cX6_putNumber 39 = .ok (.bipush 10, 2) := by decide +kernel
theorem dX6_putNumber_41 : decode cX6_putNumber 41 = .ok (.irem, 1) := by decide +kernel
theorem dX6_putNumber_42 : decode cX6_putNumber 42 = .ok (.iadd, 1) := by decide +kernel
theorem dX6_putNumber_43 : decode cX6_putNumber 43 = .ok (.i2c, 1) := by decide +kernel
theorem dX6_putNumber_44 : decode cX6_putNumber 44 = .ok (.invokevirtual 35, 3) := by decide +kernel
theorem dX6_putNumber_47 : decode cX6_putNumber 47 = .ok (.iload_n 2, 1) := by decide +kernel
theorem dX6_putNumber_48 : decode cX6_putNumber 48 = .ok (.bipush 10, 2) := by decide +kernel
theorem dX6_putNumber_50 : decode cX6_putNumber 50 = .ok (.idiv, 1) := by decide +kernel
theorem dX6_putNumber_51 : decode cX6_putNumber 51 = .ok (.istore_n 2, 1) := by decide +kernel
theorem dX6_putNumber_52 : decode cX6_putNumber 52 = .ok (.goto (-23), 3) := by decide +kernel
theorem dX6_putNumber_55 : decode cX6_putNumber 55 = .ok (.return_, 1) := by decide +kernel
theorem dX6_copyFrom_0 : decode cX6_copyFrom 0 = .ok (.aload_n 0, 1) := by decide +kernel
theorem dX6_copyFrom_1 : decode cX6_copyFrom 1 = .ok (.iconst 0, 1) := by decide +kernel
theorem dX6_copyFrom_2 : decode cX6_copyFrom 2 = .ok (.putfield 16, 3) := by decide +kernel
theorem dX6_copyFrom_5 : decode cX6_copyFrom 5 = .ok (.aload_n 0, 1) := by decide +kernel
theorem dX6_copyFrom_6 : decode cX6_copyFrom 6 = .ok (.aload_n 1, 1) := by decide +kernel
theorem dX6_copyFrom_7 : decode cX6_copyFrom 7 = .ok (.invokevirtual 39, 3) := by decide +kernel
theorem dX6_copyFrom_10 : decode cX6_copyFrom 10 = .ok (.return_, 1) := by decide +kernel
theorem dX6_putAll_0 : decode cX6_putAll 0 = .ok (.iconst 0, 1) := by decide +kernel
theorem dX6_putAll_1 : decode cX6_putAll 1 = .ok (.istore_n 2, 1) := by decide +kernel
theorem dX6_putAll_2 : decode cX6_putAll 2 = .ok (.iload_n 2, 1) := by decide +kernel
theorem dX6_putAll_3 : decode cX6_putAll 3 = .ok (.aload_n 1, 1) := by decide +kernel
theorem dX6_putAll_4 : decode cX6_putAll 4 = .ok (.getfield 16, 3) := by decide +kernel
theorem dX6_putAll_7 : decode cX6_putAll 7 = .ok (.if_icmp .ge 18, 3) := by decide +kernel
theorem dX6_putAll_10 : decode cX6_putAll 10 = .ok (.aload_n 0, 1) := by decide +kernel
theorem dX6_putAll_11 : decode cX6_putAll 11 = .ok (.aload_n 1, 1) := by decide +kernel
theorem dX6_putAll_12 : decode cX6_putAll 12 = .ok (.iload_n 2, 1) := by decide +kernel
theorem dX6_putAll_13 : decode cX6_putAll 13 = .ok (.invokevirtual 43, 3) := by decide +kernel
theorem dX6_putAll_16 : decode cX6_putAll 16 = .ok (.invokevirtual 35, 3) := by decide +kernel
theorem dX6_putAll_19 : decode cX6_putAll 19 = .ok (.iinc 2 1, 3) := by decide +kernel
theorem dX6_putAll_22 : decode cX6_putAll 22 = .ok (.goto (-20), 3) := by decide +kernel
theorem dX6_putAll_25 : decode cX6_putAll 25 = .ok (.return_, 1) := by decide +kernel
theorem dX6_indexOf_0 : decode cX6_indexOf 0 = .ok (.iload_n 2, 1) := by decide +kernel
theorem dX6_indexOf_1 : decode cX6_indexOf 1 = .ok (.iconst 0, 1) := by decide +kernel
theorem dX6_indexOf_2 : decode cX6_indexOf 2 = .ok (.invokestatic 46, 3) := by decide +kernel
theorem dX6_indexOf_5 : decode cX6_indexOf 5 = .ok (.istore_n 3, 1) := by decide +kernel
theorem dX6_indexOf_6 : decode cX6_indexOf 6 = .ok (.iload_n 3, 1) := by decide +kernel
theorem dX6_indexOf_7 : decode cX6_indexOf 7 = .ok (.aload_n 0, 1) := by decide +kernel
theorem dX6_indexOf_8 : decode cX6_indexOf 8 = .ok (.getfield 16, 3) := by decide +kernel
theorem dX6_indexOf_11 : decode cX6_indexOf 11 = .ok (.if_icmp .ge 19, 3) := by decide +kernel
theorem dX6_indexOf_14 : decode cX6_indexOf 14 = .ok (.aload_n 0, 1) := by decide +kernel
theorem dX6_indexOf_15 : decode cX6_indexOf 15 = .ok (.getfield 13, 3) := by decide +kernel
theorem dX6_indexOf_18 : decode cX6_indexOf 18 = .ok (.iload_n 3, 1) := by decide +kernel
theorem dX6_indexOf_19 : decode cX6_indexOf 19 = .ok (.caload, 1) := by decide +kernel
theorem dX6_indexOf_20 : decode cX6_indexOf 20 = .ok (.iload_n 1, 1) := by decide +kernel
theorem dX6_indexOf_21 : decode cX6_indexOf 21 = .ok (.if_icmp .eq 9, 3) := by decide +kernel
theorem dX6_indexOf_24 : decode cX6_indexOf 24 = .ok (.iinc 3 1, 3) := by decide +kernel
theorem dX6_indexOf_27 : decode cX6_indexOf 27 = .ok (.goto (-21), 3) := by decide +kernel
theorem dX6_indexOf_30 : decode cX6_indexOf 30 = .ok (.iload_n 3, 1) := by decide +kernel
theorem dX6_indexOf_31 : decode cX6_indexOf 31 = .ok (.ireturn, 1) := by decide +kernel
theorem dX6_holds_0 : decode cX6_holds 0 = .ok (.iload_n 2, 1) := by decide +kernel
theorem dX6_holds_1 : decode cX6_holds 1 = .ok (.ifCond .lt 16, 3) := by decide +kernel
theorem dX6_holds_4 : decode cX6_holds 4 = .ok (.iload_n 2, 1) := by decide +kernel
theorem dX6_holds_5 : decode cX6_holds 5 = .ok (.aload_n 1, 1) := by decide +kernel
theorem dX6_holds_6 : decode cX6_holds 6 = .ok (.invokevirtual 26, 3) := by decide +kernel
theorem dX6_holds_9 : decode cX6_holds 9 = .ok (.iadd, 1) := by decide +kernel
theorem dX6_holds_10 : decode cX6_holds 10 = .ok (.aload_n 0, 1) := by decide +kernel
theorem dX6_holds_11 : decode cX6_holds 11 = .ok (.getfield 16, 3) := by decide +kernel
theorem dX6_holds_14 : decode cX6_holds 14 = .ok (.if_icmp .le 5, 3) := by decide +kernel
theorem dX6_holds_17 : decode cX6_holds 17 = .ok (.iconst 0, 1) := by decide +kernel
theorem dX6_holds_18 : decode cX6_holds 18 = .ok (.ireturn, 1) := by decide +kernel
theorem dX6_holds_19 : decode cX6_holds 19 = .ok (.iconst 0, 1) := by decide +kernel
theorem dX6_holds_20 : decode cX6_holds 20 = .ok (.istore_n 3, 1) := by decide +kernel
theorem dX6_holds_21 : decode cX6_holds 21 = .ok (.iload_n 3, 1) := by decide +kernel
theorem dX6_holds_22 : decode cX6_holds 22 = .ok (.aload_n 1, 1) := by decide +kernel
theorem dX6_holds_23 : decode cX6_holds 23 = .ok (.invokevirtual 26, 3) := by decide +kernel
theorem dX6_holds_26 : decode cX6_holds 26 = .ok (.if_icmp .ge 27, 3) := by decide +kernel
theorem dX6_holds_29 : decode cX6_holds 29 = .ok (.aload_n 0, 1) := by decide +kernel
theorem dX6_holds_30 : decode cX6_holds 30 = .ok (.getfield 13, 3) := by decide +kernel
theorem dX6_holds_33 : decode cX6_holds 33 = .ok (.iload_n 2, 1) := by decide +kernel
theorem dX6_holds_34 : decode cX6_holds 34 = .ok (.iload_n 3, 1) := by decide +kernel
theorem dX6_holds_35 : decode cX6_holds 35 = .ok (.iadd, 1) := by decide +kernel
theorem dX6_holds_36 : decode cX6_holds 36 = .ok (.caload, 1) := by decide +kernel
theorem dX6_holds_37 : decode cX6_holds 37 = .ok (.aload_n 1, 1) := by decide +kernel
theorem dX6_holds_38 : decode cX6_holds 38 = .ok (.iload_n 3, 1) := by decide +kernel
theorem dX6_holds_39 : decode cX6_holds 39 = .ok (.invokevirtual 31, 3) := by decide +kernel
theorem dX6_holds_42 : decode cX6_holds 42 = .ok (.if_icmp .eq 5, 3) := by decide +kernel
theorem dX6_holds_45 : decode cX6_holds 45 = .ok (.iconst 0, 1) := by decide +kernel
theorem dX6_holds_46 : decode cX6_holds 46 = .ok (.ireturn, 1) := by decide +kernel
theorem dX6_holds_47 : decode cX6_holds 47 = .ok (.iinc 3 1, 3) := by decide +kernel
theorem dX6_holds_50 : decode cX6_holds 50 = .ok (.goto (-29), 3) := by decide +kernel
theorem dX6_holds_53 : decode cX6_holds 53 = .ok (.iconst 1, 1) := by decide +kernel
theorem dX6_holds_54 : decode cX6_holds 54 = .ok (.ireturn, 1) := by decide +kernel
theorem dX6_is_0 : decode cX6_is 0 = .ok (.aload_n 0, 1) := by decide +kernel
theorem dX6_is_1 : decode cX6_is 1 = .ok (.getfield 16, 3) := by decide +kernel
theorem dX6_is_4 : decode cX6_is 4 = .ok (.aload_n 1, 1) := by decide +kernel
theorem dX6_is_5 : decode cX6_is 5 = .ok (.invokevirtual 26, 3) := by decide +kernel
theorem dX6_is_8 : decode cX6_is 8 = .ok (.if_icmp .ne 16, 3) := by decide +kernel
theorem dX6_is_11 : decode cX6_is 11 = .ok (.aload_n 0, 1) := by decide +kernel
theorem dX6_is_12 : decode cX6_is 12 = .ok (.aload_n 1, 1) := by decide +kernel
theorem dX6_is_13 : decode cX6_is 13 = .ok (.iconst 0, 1) := by decide +kernel
theorem dX6_is_14 : decode cX6_is 14 = .ok (.invokevirtual 52, 3) := by decide +kernel
theorem dX6_is_17 : decode cX6_is 17 = .ok (.ifCond .eq 7, 3) := by decide +kernel
theorem dX6_is_20 : decode cX6_is 20 = .ok (.iconst 1, 1) := by decide +kernel
theorem dX6_is_21 : decode cX6_is 21 = .ok (.goto 4, 3) := by decide +kernel
theorem dX6_is_24 : decode cX6_is 24 = .ok (.iconst 0, 1) := by decide +kernel
theorem dX6_is_25 : decode cX6_is 25 = .ok (.ireturn, 1) := by decide +kernel
theorem dX6_isLike_0 : decode cX6_isLike 0 = .ok (.aload_n 0, 1) := by decide +kernel
theorem dX6_isLike_1 : decode cX6_isLike 1 = .ok (.getfield 16, 3) := by decide +kernel
theorem dX6_isLike_4 : decode cX6_isLike 4 = .ok (.aload_n 1, 1) := by decide +kernel
theorem dX6_isLike_5 : decode cX6_isLike 5 = .ok (.getfield 16, 3) := by decide +kernel
theorem dX6_isLike_8 : decode cX6_isLike 8 = .ok (.if_icmp .eq 5, 3) := by decide +kernel
theorem dX6_isLike_11 : decode cX6_isLike 11 = .ok (.iconst 0, 1) := by decide +kernel
theorem dX6_isLike_12 : decode cX6_isLike 12 = .ok (.ireturn, 1) := by decide +kernel
theorem dX6_isLike_13 : decode cX6_isLike 13 = .ok (.iconst 0, 1) := by decide +kernel
theorem dX6_isLike_14 : decode cX6_isLike 14 = .ok (.istore_n 2, 1) := by decide +kernel
theorem dX6_isLike_15 : decode cX6_isLike 15 = .ok (.iload_n 2, 1) := by decide +kernel
theorem dX6_isLike_16 : decode cX6_isLike 16 = .ok (.aload_n 0, 1) := by decide +kernel
theorem dX6_isLike_17 : decode cX6_isLike 17 = .ok (.getfield 16, 3) := by decide +kernel
theorem dX6_isLike_20 : decode cX6_isLike 20 = .ok (.if_icmp .ge 25, 3) := by decide +kernel
theorem dX6_isLike_23 : decode cX6_isLike 23 = .ok (.aload_n 0, 1) := by decide +kernel
theorem dX6_isLike_24 : decode cX6_isLike 24 = .ok (.getfield 13, 3) := by decide +kernel
theorem dX6_isLike_27 : decode cX6_isLike 27 = .ok (.iload_n 2, 1) := by decide +kernel
theorem dX6_isLike_28 : decode cX6_isLike 28 = .ok (.caload, 1) := by decide +kernel
theorem dX6_isLike_29 : decode cX6_isLike 29 = .ok (.aload_n 1, 1) := by decide +kernel
theorem dX6_isLike_30 : decode cX6_isLike 30 = .ok (.iload_n 2, 1) := by decide +kernel
theorem dX6_isLike_31 : decode cX6_isLike 31 = .ok (.invokevirtual 43, 3) := by decide +kernel
theorem dX6_isLike_34 : decode cX6_isLike 34 = .ok (.if_icmp .eq 5, 3) := by decide +kernel
theorem dX6_isLike_37 : decode cX6_isLike 37 = .ok (.iconst 0, 1) := by decide +kernel
theorem dX6_isLike_38 : decode cX6_isLike 38 = .ok (.ireturn, 1) := by decide +kernel
theorem dX6_isLike_39 : decode cX6_isLike 39 = .ok (.iinc 2 1, 3) := by decide +kernel
theorem dX6_isLike_42 : decode cX6_isLike 42 = .ok (.goto (-27), 3) := by decide +kernel
theorem dX6_isLike_45 : decode cX6_isLike 45 = .ok (.iconst 1, 1) := by decide +kernel
theorem dX6_isLike_46 : decode cX6_isLike 46 = .ok (.ireturn, 1) := by decide +kernel
theorem dX7_init_0 : decode cX7_init 0 = .ok (.aload_n 0, 1) := by decide +kernel
theorem dX7_init_1 : decode cX7_init 1 = .ok (.invokespecial 3, 3) := by decide +kernel
theorem dX7_init_4 : decode cX7_init 4 = .ok (.aload_n 0, 1) := by decide +kernel
theorem dX7_init_5 : decode cX7_init 5 = .ok (.new 9, 3) := by decide +kernel
theorem dX7_init_8 : decode cX7_init 8 = .ok (.dup, 1) := by decide +kernel
theorem dX7_init_9 : decode cX7_init 9 = .ok (.invokespecial 11, 3) := by decide +kernel
theorem dX7_init_12 : decode cX7_init 12 = .ok (.putfield 12, 3) := by decide +kernel
theorem dX7_init_15 : decode cX7_init 15 = .ok (.aload_n 0, 1) := by decide +kernel
theorem dX7_init_16 : decode cX7_init 16 = .ok (.new 9, 3) := by decide +kernel
theorem dX7_init_19 : decode cX7_init 19 = .ok (.dup, 1) := by decide +kernel
theorem dX7_init_20 : decode cX7_init 20 = .ok (.invokespecial 11, 3) := by decide +kernel
theorem dX7_init_23 : decode cX7_init 23 = .ok (.putfield 18, 3) := by decide +kernel
theorem dX7_init_26 : decode cX7_init 26 = .ok (.return_, 1) := by decide +kernel
theorem dX7_isSafe_0 : decode cX7_isSafe 0 = .ok (.iload_n 2, 1) := by decide +kernel
theorem dX7_isSafe_1 : decode cX7_isSafe 1 = .ok (.bipush 63, 2) := by decide +kernel
theorem dX7_isSafe_3 : decode cX7_isSafe 3 = .ok (.iand, 1) := by decide +kernel
theorem dX7_isSafe_4 : decode cX7_isSafe 4 = .ok (.istore_n 3, 1) := by decide +kernel
theorem dX7_isSafe_5 : decode cX7_isSafe 5 = .ok (.iload_n 2, 1) := by decide +kernel
theorem dX7_isSafe_6 : decode cX7_isSafe 6 = .ok (.bipush 6, 2) := by decide +kernel
theorem dX7_isSafe_8 : decode cX7_isSafe 8 = .ok (.ishr, 1) := by decide +kernel
theorem dX7_isSafe_9 : decode cX7_isSafe 9 = .ok (.bipush 63, 2) := by decide +kernel
theorem dX7_isSafe_11 : decode cX7_isSafe 11 = .ok (.iand, 1) := by decide +kernel
theorem dX7_isSafe_12 : decode cX7_isSafe 12 = .ok (.istore 4, 2) := by decide +kernel
theorem dX7_isSafe_14 : decode cX7_isSafe 14 = .ok (.aload_n 1, 1) := by decide +kernel
theorem dX7_isSafe_15 : decode cX7_isSafe 15 = .ok (.getfield 21, 3) := by decide +kernel
theorem dX7_isSafe_18 : decode cX7_isSafe 18 = .ok (.istore 5, 2) := by decide +kernel
theorem dX7_isSafe_20 : decode cX7_isSafe 20 = .ok (.aload_n 1, 1) := by decide +kernel
theorem dX7_isSafe_21 : decode cX7_isSafe 21 = .ok (.iload_n 3, 1) := by decide +kernel
theorem dX7_isSafe_22 : decode cX7_isSafe 22 = .ok (.iload 4, 2) := by decide +kernel
theorem dX7_isSafe_24 : decode cX7_isSafe 24 = .ok (.invokevirtual 25, 3) := by decide +kernel
theorem dX7_isSafe_27 : decode cX7_isSafe 27 = .ok (.ifCond .eq 34, 3) := by decide +kernel
theorem dX7_isSafe_30 : decode cX7_isSafe 30 = .ok (.aload_n 1, 1) := by decide +kernel
theorem dX7_isSafe_31 : decode cX7_isSafe 31 = .ok (.iload_n 3, 1) := by decide +kernel
theorem dX7_isSafe_32 : decode cX7_isSafe 32 = .ok (.iconst 1, 1) := by decide +kernel
theorem dX7_isSafe_33 : decode cX7_isSafe 33 = .ok (.iload 5, 2) := by decide +kernel
theorem dX7_isSafe_35 : decode cX7_isSafe 35 = .ok (.isub, 1) := by decide +kernel
theorem dX7_isSafe_36 : decode cX7_isSafe 36 = .ok (.invokevirtual 29, 3) := by decide +kernel
theorem dX7_isSafe_39 : decode cX7_isSafe 39 = .ok (.ifCond .ne 20, 3) := by decide +kernel
theorem dX7_isSafe_42 : decode cX7_isSafe 42 = .ok (.aload_n 1, 1) := by decide +kernel
theorem dX7_isSafe_43 : decode cX7_isSafe 43 = .ok (.iload_n 3, 1) := by decide +kernel
theorem dX7_isSafe_44 : decode cX7_isSafe 44 = .ok (.iload 4, 2) := by decide +kernel
theorem dX7_isSafe_46 : decode cX7_isSafe 46 = .ok (.iadd, 1) := by decide +kernel
theorem dX7_isSafe_47 : decode cX7_isSafe 47 = .ok (.iconst 2, 1) := by decide +kernel
theorem dX7_isSafe_48 : decode cX7_isSafe 48 = .ok (.idiv, 1) := by decide +kernel
theorem dX7_isSafe_49 : decode cX7_isSafe 49 = .ok (.iconst 1, 1) := by decide +kernel
theorem dX7_isSafe_50 : decode cX7_isSafe 50 = .ok (.iload 5, 2) := by decide +kernel
theorem dX7_isSafe_52 : decode cX7_isSafe 52 = .ok (.isub, 1) := by decide +kernel
theorem dX7_isSafe_53 : decode cX7_isSafe 53 = .ok (.invokevirtual 29, 3) := by decide +kernel
theorem dX7_isSafe_56 : decode cX7_isSafe 56 = .ok (.ifCond .eq 5, 3) := by decide +kernel
theorem dX7_isSafe_59 : decode cX7_isSafe 59 = .ok (.iconst 0, 1) := by decide +kernel
theorem dX7_isSafe_60 : decode cX7_isSafe 60 = .ok (.ireturn, 1) := by decide +kernel
theorem dX7_isSafe_61 : decode cX7_isSafe 61 = .ok (.aload_n 0, 1) := by decide +kernel
theorem dX7_isSafe_62 : decode cX7_isSafe 62 = .ok (.getfield 12, 3) := by decide +kernel
theorem dX7_isSafe_65 : decode cX7_isSafe 65 = .ok (.aload_n 1, 1) := by decide +kernel
theorem dX7_isSafe_66 : decode cX7_isSafe 66 = .ok (.invokevirtual 32, 3) := by decide +kernel
theorem dX7_isSafe_69 : decode cX7_isSafe 69 = .ok (.aload_n 0, 1) := by decide +kernel
theorem dX7_isSafe_70 : decode cX7_isSafe 70 = .ok (.getfield 12, 3) := by decide +kernel
theorem dX7_isSafe_73 : decode cX7_isSafe 73 = .ok (.iload_n 2, 1) := by decide +kernel
theorem dX7_isSafe_74 : decode cX7_isSafe 74 = .ok (.invokevirtual 36, 3) := by decide +kernel
theorem dX7_isSafe_77 : decode cX7_isSafe 77 = .ok (.aload_n 0, 1) := by decide +kernel
theorem dX7_isSafe_78 : decode cX7_isSafe 78 = .ok (.getfield 12, 3) := by decide +kernel
theorem dX7_isSafe_81 : decode cX7_isSafe 81 = .ok (.aload_n 0, 1) := by decide +kernel
theorem dX7_isSafe_82 : decode cX7_isSafe 82 = .ok (.getfield 12, 3) := by decide +kernel
theorem dX7_isSafe_85 : decode cX7_isSafe 85 = .ok (.iload 5, 2) := by decide +kernel
theorem dX7_isSafe_87 : decode cX7_isSafe 87 = .ok (.invokevirtual 40, 3) := by decide +kernel
theorem dX7_isSafe_90 : decode cX7_isSafe 90 = .ok (.iconst 1, 1) := by decide +kernel
theorem dX7_isSafe_91 : decode cX7_isSafe 91 = .ok (.iload 5, 2) := by decide +kernel
theorem dX7_isSafe_93 : decode cX7_isSafe 93 = .ok (.isub, 1) := by decide +kernel
theorem dX7_isSafe_94 : decode cX7_isSafe 94 = .ok (.invokevirtual 29, 3) := by decide +kernel
theorem dX7_isSafe_97 : decode cX7_isSafe 97 = .ok (.ifCond .ne 7, 3) := by decide +kernel
theorem dX7_isSafe_100 : decode cX7_isSafe 100 = .ok (.iconst 1, 1) := by decide +kernel
theorem dX7_isSafe_101 : decode cX7_isSafe 101 = .ok (.goto 4, 3) := by decide +kernel
theorem dX7_isSafe_104 : decode cX7_isSafe 104 = .ok (.iconst 0, 1) := by decide +kernel
theorem dX7_isSafe_105 : decode cX7_isSafe 105 = .ok (.ireturn, 1) := by decide +kernel
theorem dX7_isLegal_0 : decode cX7_isLegal 0 = .ok (.iload_n 2, 1) := by decide +kernel
theorem dX7_isLegal_1 : decode cX7_isLegal 1 = .ok (.bipush 63, 2) := by decide +kernel
theorem dX7_isLegal_3 : decode cX7_isLegal 3 = .ok (.iand, 1) := by decide +kernel
theorem dX7_isLegal_4 : decode cX7_isLegal 4 = .ok (.istore_n 3, 1) := by decide +kernel
theorem dX7_isLegal_5 : decode cX7_isLegal 5 = .ok (.iload_n 2, 1) := by decide +kernel
theorem dX7_isLegal_6 : decode cX7_isLegal 6 = .ok (.bipush 6, 2) := by decide +kernel
theorem dX7_isLegal_8 : decode cX7_isLegal 8 = .ok (.ishr, 1) := by decide +kernel
theorem dX7_isLegal_9 : decode cX7_isLegal 9 = .ok (.bipush 63, 2) := by decide +kernel
theorem dX7_isLegal_11 : decode cX7_isLegal 11 = .ok (.iand, 1) := by decide +kernel
theorem dX7_isLegal_12 : decode cX7_isLegal 12 = .ok (.istore 4, 2) := by decide +kernel
theorem dX7_isLegal_14 : decode cX7_isLegal 14 = .ok (.iload_n 2, 1) := by decide +kernel
theorem dX7_isLegal_15 : decode cX7_isLegal 15 = .ok (.bipush 12, 2) := by decide +kernel
theorem dX7_isLegal_17 : decode cX7_isLegal 17 = .ok (.ishr, 1) := by decide +kernel
theorem dX7_isLegal_18 : decode cX7_isLegal 18 = .ok (.istore 5, 2) := by decide +kernel
theorem dX7_isLegal_20 : decode cX7_isLegal 20 = .ok (.iload 5, 2) := by decide +kernel
theorem dX7_isLegal_22 : decode cX7_isLegal 22 = .ok (.ifCond .lt 25, 3) := by decide +kernel
theorem dX7_isLegal_25 : decode cX7_isLegal 25 = .ok (.iload 5, 2) := by decide +kernel
theorem dX7_isLegal_27 : decode cX7_isLegal 27 = .ok (.iconst 1, 1) := by decide +kernel
theorem dX7_isLegal_28 : decode cX7_isLegal 28 = .ok (.if_icmp .eq 19, 3) := by decide +kernel
theorem dX7_isLegal_31 : decode cX7_isLegal 31 = .ok (.iload 5, 2) := by decide +kernel
theorem dX7_isLegal_33 : decode cX7_isLegal 33 = .ok (.iconst 5, 1) := by decide +kernel
theorem dX7_isLegal_34 : decode cX7_isLegal 34 = .ok (.if_icmp .gt 13, 3) := by decide +kernel
theorem dX7_isLegal_37 : decode cX7_isLegal 37 = .ok (.aload_n 1, 1) := by decide +kernel
theorem dX7_isLegal_38 : decode cX7_isLegal 38 = .ok (.iload_n 3, 1) := by decide +kernel
theorem dX7_isLegal_39 : decode cX7_isLegal 39 = .ok (.iload 4, 2) := by decide +kernel
theorem dX7_isLegal_41 : decode cX7_isLegal 41 = .ok (.invokevirtual 44, 3) := by decide +kernel
theorem dX7_isLegal_44 : decode cX7_isLegal 44 = .ok (.ifCond .ne 5, 3) := by decide +kernel
theorem dX7_isLegal_47 : decode cX7_isLegal 47 = .ok (.iconst 0, 1) := by decide +kernel
theorem dX7_isLegal_48 : decode cX7_isLegal 48 = .ok (.ireturn, 1) := by decide +kernel
theorem dX7_isLegal_49 : decode cX7_isLegal 49 = .ok (.aload_n 1, 1) := by decide +kernel
theorem dX7_isLegal_50 : decode cX7_isLegal 50 = .ok (.iload_n 3, 1) := by decide +kernel
theorem dX7_isLegal_51 : decode cX7_isLegal 51 = .ok (.iload 4, 2) := by decide +kernel
theorem dX7_isLegal_53 : decode cX7_isLegal 53 = .ok (.invokevirtual 47, 3) := by decide +kernel
theorem dX7_isLegal_56 : decode cX7_isLegal 56 = .ok (.iload 5, 2) := by decide +kernel
theorem dX7_isLegal_58 : decode cX7_isLegal 58 = .ok (.ifCond .eq 7, 3) := by decide +kernel
theorem dX7_isLegal_61 : decode cX7_isLegal 61 = .ok (.iconst 1, 1) := by decide +kernel
theorem dX7_isLegal_62 : decode cX7_isLegal 62 = .ok (.goto 4, 3) := by decide +kernel
theorem dX7_isLegal_65 : decode cX7_isLegal 65 = .ok (.iconst 0, 1) := by decide +kernel
theorem dX7_isLegal_66 : decode cX7_isLegal 66 = .ok (.if_icmp .ne 16, 3) := by decide +kernel
theorem dX7_isLegal_69 : decode cX7_isLegal 69 = .ok (.aload_n 0, 1) := by decide +kernel
theorem dX7_isLegal_70 : decode cX7_isLegal 70 = .ok (.aload_n 1, 1) := by decide +kernel
theorem dX7_isLegal_71 : decode cX7_isLegal 71 = .ok (.iload_n 2, 1) := by decide +kernel
theorem dX7_isLegal_72 : decode cX7_isLegal 72 = .ok (.invokevirtual 50, 3) := by decide +kernel
theorem dX7_isLegal_75 : decode cX7_isLegal 75 = .ok (.ifCond .eq 7, 3) := by decide +kernel
theorem dX7_isLegal_78 : decode cX7_isLegal 78 = .ok (.iconst 1, 1) := by decide +kernel
theorem dX7_isLegal_79 : decode cX7_isLegal 79 = .ok (.goto 4, 3) := by decide +kernel
theorem dX7_isLegal_82 : decode cX7_isLegal 82 = .ok (.iconst 0, 1) := by decide +kernel
theorem dX7_isLegal_83 : decode cX7_isLegal 83 = .ok (.ireturn, 1) := by decide +kernel
theorem dX7_legalMove_0 : decode cX7_legalMove 0 = .ok (.iload_n 2, 1) := by decide +kernel
theorem dX7_legalMove_1 : decode cX7_legalMove 1 = .ok (.ifCond .ge 5, 3) := by decide +kernel
theorem dX7_legalMove_4 : decode cX7_legalMove 4 = .ok (.iconst (-1), 1) := by decide +kernel
theorem dX7_legalMove_5 : decode cX7_legalMove 5 = .ok (.ireturn, 1) := by decide +kernel
theorem dX7_legalMove_6 : decode cX7_legalMove 6 = .ok (.iload_n 2, 1) := by decide +kernel
theorem dX7_legalMove_7 : decode cX7_legalMove 7 = .ok (.istore_n 3, 1) := by decide +kernel
theorem dX7_legalMove_8 : decode cX7_legalMove 8 = .ok (.iconst 0, 1) := by decide +kernel
theorem dX7_legalMove_9 : decode cX7_legalMove 9 = .ok (.istore 4, 2) := by decide +kernel
theorem dX7_legalMove_11 : decode cX7_legalMove 11 = .ok (.iload 4, 2) := by decide +kernel
theorem dX7_legalMove_13 : decode cX7_legalMove 13 = .ok (.bipush 64, 2) := by decide +kernel
theorem dX7_legalMove_15 : decode cX7_legalMove 15 = .ok (.if_icmp .ge 107, 3) := by decide +kernel
theorem dX7_legalMove_18 : decode cX7_legalMove 18 = .ok (.iconst 0, 1) := by decide +kernel
theorem dX7_legalMove_19 : decode cX7_legalMove 19 = .ok (.istore 5, 2) := by decide +kernel
theorem dX7_legalMove_21 : decode cX7_legalMove 21 = .ok (.iload 5, 2) := by decide +kernel
theorem dX7_legalMove_23 : decode cX7_legalMove 23 = .ok (.bipush 64, 2) := by decide +kernel
theorem dX7_legalMove_25 : decode cX7_legalMove 25 = .ok (.if_icmp .ge 91, 3) := by decide +kernel
theorem dX7_legalMove_28 : decode cX7_legalMove 28 = .ok (.iload 4, 2) := by decide +kernel
theorem dX7_legalMove_30 : decode cX7_legalMove 30 = .ok (.bipush 64, 2) := by decide +kernel
theorem dX7_legalMove_32 : decode cX7_legalMove 32 = .ok (.iload 5, 2) := by decide +kernel
theorem dX7_legalMove_34 : decode cX7_legalMove 34 = .ok (.imul, 1) := by decide +kernel
theorem dX7_legalMove_35 : decode cX7_legalMove 35 = .ok (.iadd, 1) := by decide +kernel
theorem dX7_legalMove_36 : decode cX7_legalMove 36 = .ok (.istore 6, 2) := by decide +kernel
theorem dX7_legalMove_38 : decode cX7_legalMove 38 = .ok (.aload_n 1, 1) := by decide +kernel
theorem dX7_legalMove_39 : decode cX7_legalMove 39 = .ok (.iload 4, 2) := by decide +kernel
theorem dX7_legalMove_41 : decode cX7_legalMove 41 = .ok (.iload 5, 2) := by decide +kernel
theorem dX7_legalMove_43 : decode cX7_legalMove 43 = .ok (.invokevirtual 44, 3) := by decide +kernel
theorem dX7_legalMove_46 : decode cX7_legalMove 46 = .ok (.ifCond .eq 64, 3) := by decide +kernel
theorem dX7_legalMove_49 : decode cX7_legalMove 49 = .ok (.aload_n 0, 1) := by decide +kernel
theorem dX7_legalMove_50 : decode cX7_legalMove 50 = .ok (.aload_n 1, 1) := by decide +kernel
theorem dX7_legalMove_51 : decode cX7_legalMove 51 = .ok (.iload 6, 2) := by decide +kernel
theorem dX7_legalMove_53 : decode cX7_legalMove 53 = .ok (.invokevirtual 50, 3) := by decide +kernel
theorem dX7_legalMove_56 : decode cX7_legalMove 56 = .ok (.ifCond .eq 54, 3) := by decide +kernel
theorem dX7_legalMove_59 : decode cX7_legalMove 59 = .ok (.aload_n 1, 1) := by decide +kernel
theorem dX7_legalMove_60 : decode cX7_legalMove 60 = .ok (.iload 4, 2) := by decide +kernel
theorem dX7_legalMove_62 : decode cX7_legalMove 62 = .ok (.iload 5, 2) := by decide +kernel
theorem dX7_legalMove_64 : decode cX7_legalMove 64 = .ok (.invokevirtual 47, 3) := by decide +kernel
theorem dX7_legalMove_67 : decode cX7_legalMove 67 = .ok (.ifCond .eq 7, 3) := by decide +kernel
theorem dX7_legalMove_70 : decode cX7_legalMove 70 = .ok (.iconst 4, 1) := by decide +kernel
theorem dX7_legalMove_71 : decode cX7_legalMove 71 = .ok (.goto 4, 3) := by decide +kernel
theorem dX7_legalMove_74 : decode cX7_legalMove 74 = .ok (.iconst 1, 1) := by decide +kernel
theorem dX7_legalMove_75 : decode cX7_legalMove 75 = .ok (.istore 7, 2) := by decide +kernel
theorem dX7_legalMove_77 : decode cX7_legalMove 77 = .ok (.iload_n 3, 1) := by decide +kernel
theorem dX7_legalMove_78 : decode cX7_legalMove 78 = .ok (.iload 7, 2) := by decide +kernel
theorem dX7_legalMove_80 : decode cX7_legalMove 80 = .ok (.if_icmp .ge 25, 3) := by decide +kernel
theorem dX7_legalMove_83 : decode cX7_legalMove 83 = .ok (.iload 7, 2) := by decide +kernel
theorem dX7_legalMove_85 : decode cX7_legalMove 85 = .ok (.iconst 1, 1) := by decide +kernel
theorem dX7_legalMove_86 : decode cX7_legalMove 86 = .ok (.if_icmp .ne 8, 3) := by decide +kernel
theorem dX7_legalMove_89 : decode cX7_legalMove 89 = .ok (.iload 6, 2) := by decide +kernel
theorem dX7_legalMove_91 : decode cX7_legalMove 91 = .ok (.goto 13, 3) := by decide +kernel
theorem dX7_legalMove_94 : decode cX7_legalMove 94 = .ok (.iload 6, 2) := by decide +kernel
theorem dX7_legalMove_96 : decode cX7_legalMove 96 = .ok (.sipush 4096, 3) := by decide +kernel
theorem dX7_legalMove_99 : decode cX7_legalMove 99 = .ok (.iconst 2, 1) := by decide +kernel
theorem dX7_legalMove_100 : decode cX7_legalMove 100 = .ok (.iload_n 3, 1) := by decide +kernel
theorem dX7_legalMove_101 : decode cX7_legalMove 101 = .ok (.iadd, 1) := by decide +kernel
theorem dX7_legalMove_102 : decode cX7_legalMove 102 = .ok (.imul, 1) := by decide +kernel
theorem dX7_legalMove_103 : decode cX7_legalMove 103 = .ok (.iadd, 1) := by decide +kernel
theorem dX7_legalMove_104 : decode cX7_legalMove 104 = .ok (.ireturn, 1) := by decide +kernel
theorem dX7_legalMove_105 : decode cX7_legalMove 105 = .ok (.iload_n 3, 1) := by decide +kernel
theorem dX7_legalMove_106 : decode cX7_legalMove 106 = .ok (.iload 7, 2) := by decide +kernel
theorem dX7_legalMove_108 : decode cX7_legalMove 108 = .ok (.isub, 1) := by decide +kernel
theorem dX7_legalMove_109 : decode cX7_legalMove 109 = .ok (.istore_n 3, 1) := by decide +kernel
theorem dX7_legalMove_110 : decode cX7_legalMove 110 = .ok (.iinc 5 1, 3) := by decide +kernel
theorem dX7_legalMove_113 : decode cX7_legalMove 113 = .ok (.goto (-92), 3) := by decide +kernel
theorem dX7_legalMove_116 : decode cX7_legalMove 116 = .ok (.iinc 4 1, 3) := by decide +kernel
theorem dX7_legalMove_119 : decode cX7_legalMove 119 = .ok (.goto (-108), 3) := by decide +kernel
theorem dX7_legalMove_122 : decode cX7_legalMove 122 = .ok (.iconst (-1), 1) := by decide +kernel
theorem dX7_legalMove_123 : decode cX7_legalMove 123 = .ok (.ireturn, 1) := by decide +kernel
theorem dX7_checkSign_0 : decode cX7_checkSign 0 = .ok (.aload_n 0, 1) := by decide +kernel
theorem dX7_checkSign_1 : decode cX7_checkSign 1 = .ok (.getfield 18, 3) := by decide +kernel
theorem dX7_checkSign_4 : decode cX7_checkSign 4 = .ok (.aload_n 1, 1) := by decide +kernel
theorem dX7_checkSign_5 : decode cX7_checkSign 5 = .ok (.invokevirtual 32, 3) := by decide +kernel
theorem dX7_checkSign_8 : decode cX7_checkSign 8 = .ok (.aload_n 0, 1) := by decide +kernel
theorem dX7_checkSign_9 : decode cX7_checkSign 9 = .ok (.getfield 18, 3) := by decide +kernel
theorem dX7_checkSign_12 : decode cX7_checkSign 12 = .ok (.iload_n 2, 1) := by decide +kernel
theorem dX7_checkSign_13 : decode cX7_checkSign 13 = .ok (.invokevirtual 36, 3) := by decide +kernel
theorem dX7_checkSign_16 : decode cX7_checkSign 16 = .ok (.aload_n 0, 1) := by decide +kernel
theorem dX7_checkSign_17 : decode cX7_checkSign 17 = .ok (.getfield 18, 3) := by decide +kernel
theorem dX7_checkSign_20 : decode cX7_checkSign 20 = .ok (.aload_n 0, 1) := by decide +kernel
theorem dX7_checkSign_21 : decode cX7_checkSign 21 = .ok (.getfield 18, 3) := by decide +kernel
theorem dX7_checkSign_24 : decode cX7_checkSign 24 = .ok (.aload_n 0, 1) := by decide +kernel
theorem dX7_checkSign_25 : decode cX7_checkSign 25 = .ok (.getfield 18, 3) := by decide +kernel
theorem dX7_checkSign_28 : decode cX7_checkSign 28 = .ok (.getfield 21, 3) := by decide +kernel
theorem dX7_checkSign_31 : decode cX7_checkSign 31 = .ok (.invokevirtual 40, 3) := by decide +kernel
theorem dX7_checkSign_34 : decode cX7_checkSign 34 = .ok (.iconst 1, 1) := by decide +kernel
theorem dX7_checkSign_35 : decode cX7_checkSign 35 = .ok (.aload_n 0, 1) := by decide +kernel
theorem dX7_checkSign_36 : decode cX7_checkSign 36 = .ok (.getfield 18, 3) := by decide +kernel
theorem dX7_checkSign_39 : decode cX7_checkSign 39 = .ok (.getfield 21, 3) := by decide +kernel
theorem dX7_checkSign_42 : decode cX7_checkSign 42 = .ok (.isub, 1) := by decide +kernel
theorem dX7_checkSign_43 : decode cX7_checkSign 43 = .ok (.invokevirtual 29, 3) := by decide +kernel
theorem dX7_checkSign_46 : decode cX7_checkSign 46 = .ok (.ifCond .ne 5, 3) := by decide +kernel
theorem dX7_checkSign_49 : decode cX7_checkSign 49 = .ok (.iconst 0, 1) := by decide +kernel
theorem dX7_checkSign_50 : decode cX7_checkSign 50 = .ok (.ireturn, 1) := by decide +kernel
theorem dX7_checkSign_51 : decode cX7_checkSign 51 = .ok (.iconst 0, 1) := by decide +kernel
theorem dX7_checkSign_52 : decode cX7_checkSign 52 = .ok (.istore_n 3, 1) := by decide +kernel
theorem dX7_checkSign_53 : decode cX7_checkSign 53 = .ok (.iload_n 3, 1) := by decide +kernel
theorem dX7_checkSign_54 : decode cX7_checkSign 54 = .ok (.bipush 64, 2) := by decide +kernel
theorem dX7_checkSign_56 : decode cX7_checkSign 56 = .ok (.if_icmp .ge 59, 3) := by decide +kernel
theorem dX7_checkSign_59 : decode cX7_checkSign 59 = .ok (.iconst 0, 1) := by decide +kernel
theorem dX7_checkSign_60 : decode cX7_checkSign 60 = .ok (.istore 4, 2) := by decide +kernel
theorem dX7_checkSign_62 : decode cX7_checkSign 62 = .ok (.iload 4, 2) := by decide +kernel
theorem dX7_checkSign_64 : decode cX7_checkSign 64 = .ok (.bipush 64, 2) := by decide +kernel
theorem dX7_checkSign_66 : decode cX7_checkSign 66 = .ok (.if_icmp .ge 43, 3) := by decide +kernel
theorem dX7_checkSign_69 : decode cX7_checkSign 69 = .ok (.aload_n 0, 1) := by decide +kernel
theorem dX7_checkSign_70 : decode cX7_checkSign 70 = .ok (.getfield 18, 3) := by decide +kernel
theorem dX7_checkSign_73 : decode cX7_checkSign 73 = .ok (.iload_n 3, 1) := by decide +kernel
theorem dX7_checkSign_74 : decode cX7_checkSign 74 = .ok (.iload 4, 2) := by decide +kernel
theorem dX7_checkSign_76 : decode cX7_checkSign 76 = .ok (.invokevirtual 44, 3) := by decide +kernel
theorem dX7_checkSign_79 : decode cX7_checkSign 79 = .ok (.ifCond .eq 24, 3) := by decide +kernel
theorem dX7_checkSign_82 : decode cX7_checkSign 82 = .ok (.aload_n 0, 1) := by decide +kernel
theorem dX7_checkSign_83 : decode cX7_checkSign 83 = .ok (.aload_n 0, 1) := by decide +kernel
theorem dX7_checkSign_84 : decode cX7_checkSign 84 = .ok (.getfield 18, 3) := by decide +kernel
theorem dX7_checkSign_87 : decode cX7_checkSign 87 = .ok (.iload_n 3, 1) := by decide +kernel
theorem dX7_checkSign_88 : decode cX7_checkSign 88 = .ok (.bipush 64, 2) := by decide +kernel
theorem dX7_checkSign_90 : decode cX7_checkSign 90 = .ok (.iload 4, 2) := by decide +kernel
theorem dX7_checkSign_92 : decode cX7_checkSign 92 = .ok (.imul, 1) := by decide +kernel
theorem dX7_checkSign_93 : decode cX7_checkSign 93 = .ok (.iadd, 1) := by decide +kernel
theorem dX7_checkSign_94 : decode cX7_checkSign 94 = .ok (.invokevirtual 50, 3) := by decide +kernel
theorem dX7_checkSign_97 : decode cX7_checkSign 97 = .ok (.ifCond .eq 6, 3) := by decide +kernel
theorem dX7_checkSign_100 : decode cX7_checkSign 100 = .ok (.bipush 43, 2) := by decide +kernel
theorem dX7_checkSign_102 : decode cX7_checkSign 102 = .ok (.ireturn, 1) := by decide +kernel
theorem dX7_checkSign_103 : decode cX7_checkSign 103 = .ok (.iinc 4 1, 3) := by decide +kernel
theorem dX7_checkSign_106 : decode cX7_checkSign 106 = .ok (.goto (-44), 3) := by decide +kernel
theorem dX7_checkSign_109 : decode cX7_checkSign 109 = .ok (.iinc 3 1, 3) := by decide +kernel
theorem dX7_checkSign_112 : decode cX7_checkSign 112 = .ok (.goto (-59), 3) := by decide +kernel
theorem dX7_checkSign_115 : decode cX7_checkSign 115 = .ok (.bipush 35, 2) := by decide +kernel
theorem dX7_checkSign_117 : decode cX7_checkSign 117 = .ok (.ireturn, 1) := by decide +kernel
theorem dX8_init_0 : decode cX8_init 0 = .ok (.aload_n 0, 1) := by decide +kernel
theorem dX8_init_1 : decode cX8_init 1 = .ok (.invokespecial 3, 3) := by decide +kernel
theorem dX8_init_4 : decode cX8_init 4 = .ok (.aload_n 0, 1) := by decide +kernel
theorem dX8_init_5 : decode cX8_init 5 = .ok (.new 9, 3) := by decide +kernel
theorem dX8_init_8 : decode cX8_init 8 = .ok (.dup, 1) := by decide +kernel
theorem dX8_init_9 : decode cX8_init 9 = .ok (.invokespecial 11, 3) := by decide +kernel
theorem dX8_init_12 : decode cX8_init 12 = .ok (.putfield 12, 3) := by decide +kernel
theorem dX8_init_15 : decode cX8_init 15 = .ok (.aload_n 0, 1) := by decide +kernel
theorem dX8_init_16 : decode cX8_init 16 = .ok (.new 18, 3) := by decide +kernel
theorem dX8_init_19 : decode cX8_init 19 = .ok (.dup, 1) := by decide +kernel
theorem dX8_init_20 : decode cX8_init 20 = .ok (.invokespecial 20, 3) := by decide +kernel
theorem dX8_init_23 : decode cX8_init 23 = .ok (.putfield 21, 3) := by decide +kernel
theorem dX8_init_26 : decode cX8_init 26 = .ok (.aload_n 0, 1) := by decide +kernel
theorem dX8_init_27 : decode cX8_init 27 = .ok (.bipush 64, 2) := by decide +kernel
theorem dX8_init_29 : decode cX8_init 29 = .ok (.newarray .int, 2) := by decide +kernel
theorem dX8_init_31 : decode cX8_init 31 = .ok (.putfield 25, 3) := by decide +kernel
theorem dX8_init_34 : decode cX8_init 34 = .ok (.return_, 1) := by decide +kernel
theorem dX8_matched_0 : decode cX8_matched 0 = .ok (.aload_n 0, 1) := by decide +kernel
theorem dX8_matched_1 : decode cX8_matched 1 = .ok (.aload_n 2, 1) := by decide +kernel
theorem dX8_matched_2 : decode cX8_matched 2 = .ok (.iload_n 3, 1) := by decide +kernel
theorem dX8_matched_3 : decode cX8_matched 3 = .ok (.iload 4, 2) := by decide +kernel
theorem dX8_matched_5 : decode cX8_matched 5 = .ok (.invokevirtual 29, 3) := by decide +kernel
theorem dX8_matched_8 : decode cX8_matched 8 = .ok (.aload_n 0, 1) := by decide +kernel
theorem dX8_matched_9 : decode cX8_matched 9 = .ok (.invokevirtual 33, 3) := by decide +kernel
theorem dX8_matched_12 : decode cX8_matched 12 = .ok (.ifCond .eq 91, 3) := by decide +kernel
theorem dX8_matched_15 : decode cX8_matched 15 = .ok (.aload_n 0, 1) := by decide +kernel
theorem dX8_matched_16 : decode cX8_matched 16 = .ok (.aload_n 1, 1) := by decide +kernel
theorem dX8_matched_17 : decode cX8_matched 17 = .ok (.invokevirtual 37, 3) := by decide +kernel
theorem dX8_matched_20 : decode cX8_matched 20 = .ok (.iconst (-1), 1) := by decide +kernel
theorem dX8_matched_21 : decode cX8_matched 21 = .ok (.istore 5, 2) := by decide +kernel
theorem dX8_matched_23 : decode cX8_matched 23 = .ok (.iconst 0, 1) := by decide +kernel
theorem dX8_matched_24 : decode cX8_matched 24 = .ok (.istore 6, 2) := by decide +kernel
theorem dX8_matched_26 : decode cX8_matched 26 = .ok (.iconst 0, 1) := by decide +kernel
theorem dX8_matched_27 : decode cX8_matched 27 = .ok (.istore 7, 2) := by decide +kernel
theorem dX8_matched_29 : decode cX8_matched 29 = .ok (.iload 7, 2) := by decide +kernel
theorem dX8_matched_31 : decode cX8_matched 31 = .ok (.aload_n 0, 1) := by decide +kernel
theorem dX8_matched_32 : decode cX8_matched 32 = .ok (.getfield 41, 3) := by decide +kernel
theorem dX8_matched_35 : decode cX8_matched 35 = .ok (.if_icmp .ge 50, 3) := by decide +kernel
theorem dX8_matched_38 : decode cX8_matched 38 = .ok (.aload_n 0, 1) := by decide +kernel
theorem dX8_matched_39 : decode cX8_matched 39 = .ok (.getfield 45, 3) := by decide +kernel
theorem dX8_matched_42 : decode cX8_matched 42 = .ok (.ifCond .eq 25, 3) := by decide +kernel
theorem dX8_matched_45 : decode cX8_matched 45 = .ok (.aload_n 0, 1) := by decide +kernel
theorem dX8_matched_46 : decode cX8_matched 46 = .ok (.getfield 45, 3) := by decide +kernel
theorem dX8_matched_49 : decode cX8_matched 49 = .ok (.aload_n 0, 1) := by decide +kernel
theorem dX8_matched_50 : decode cX8_matched 50 = .ok (.getfield 12, 3) := by decide +kernel
theorem dX8_matched_53 : decode cX8_matched 53 = .ok (.aload_n 1, 1) := by decide +kernel
theorem dX8_matched_54 : decode cX8_matched 54 = .ok (.aload_n 0, 1) := by decide +kernel
theorem dX8_matched_55 : decode cX8_matched 55 = .ok (.getfield 25, 3) := by decide +kernel
theorem dX8_matched_58 : decode cX8_matched 58 = .ok (.iload 7, 2) := by decide +kernel
theorem dX8_matched_60 : decode cX8_matched 60 = .ok (.iaload, 1) := by decide +kernel
theorem dX8_matched_61 : decode cX8_matched 61 = .ok (.invokevirtual 49, 3) := by decide +kernel
theorem dX8_matched_64 : decode cX8_matched 64 = .ok (.if_icmp .ne 15, 3) := by decide +kernel
theorem dX8_matched_67 : decode cX8_matched 67 = .ok (.aload_n 0, 1) := by decide +kernel
theorem dX8_matched_68 : decode cX8_matched 68 = .ok (.getfield 25, 3) := by decide +kernel
theorem dX8_matched_71 : decode cX8_matched 71 = .ok (.iload 7, 2) := by decide +kernel
theorem dX8_matched_73 : decode cX8_matched 73 = .ok (.iaload, 1) := by decide +kernel
theorem dX8_matched_74 : decode cX8_matched 74 = .ok (.istore 5, 2) := by decide +kernel
theorem dX8_matched_76 : decode cX8_matched 76 = .ok (.iinc 6 1, 3) := by decide +kernel
theorem dX8_matched_79 : decode cX8_matched 79 = .ok (.iinc 7 1, 3) := by decide +kernel
theorem dX8_matched_82 : decode cX8_matched 82 = .ok (.goto (-53), 3) := by decide +kernel
theorem dX8_matched_85 : decode cX8_matched 85 = .ok (.iload 6, 2) := by decide +kernel
theorem dX8_matched_87 : decode cX8_matched 87 = .ok (.ifCond .le 16, 3) := by decide +kernel
theorem dX8_matched_90 : decode cX8_matched 90 = .ok (.iload 6, 2) := by decide +kernel
theorem dX8_matched_92 : decode cX8_matched 92 = .ok (.iconst 1, 1) := by decide +kernel
theorem dX8_matched_93 : decode cX8_matched 93 = .ok (.if_icmp .ne 8, 3) := by decide +kernel
theorem dX8_matched_96 : decode cX8_matched 96 = .ok (.iload 5, 2) := by decide +kernel
theorem dX8_matched_98 : decode cX8_matched 98 = .ok (.goto 4, 3) := by decide +kernel
theorem dX8_matched_101 : decode cX8_matched 101 = .ok (.iconst (-1), 1) := by decide +kernel
theorem dX8_matched_102 : decode cX8_matched 102 = .ok (.ireturn, 1) := by decide +kernel
theorem dX8_matched_103 : decode cX8_matched 103 = .ok (.aload_n 0, 1) := by decide +kernel
theorem dX8_matched_104 : decode cX8_matched 104 = .ok (.aload_n 2, 1) := by decide +kernel
theorem dX8_matched_105 : decode cX8_matched 105 = .ok (.iload_n 3, 1) := by decide +kernel
theorem dX8_matched_106 : decode cX8_matched 106 = .ok (.iload 4, 2) := by decide +kernel
theorem dX8_matched_108 : decode cX8_matched 108 = .ok (.invokevirtual 53, 3) := by decide +kernel
theorem dX8_matched_111 : decode cX8_matched 111 = .ok (.aload_n 0, 1) := by decide +kernel
theorem dX8_matched_112 : decode cX8_matched 112 = .ok (.invokevirtual 33, 3) := by decide +kernel
theorem dX8_matched_115 : decode cX8_matched 115 = .ok (.ifCond .ne 5, 3) := by decide +kernel
theorem dX8_matched_118 : decode cX8_matched 118 = .ok (.iconst (-1), 1) := by decide +kernel
theorem dX8_matched_119 : decode cX8_matched 119 = .ok (.ireturn, 1) := by decide +kernel
theorem dX8_matched_120 : decode cX8_matched 120 = .ok (.aload_n 0, 1) := by decide +kernel
theorem dX8_matched_121 : decode cX8_matched 121 = .ok (.iconst (-1), 1) := by decide +kernel
theorem dX8_matched_122 : decode cX8_matched 122 = .ok (.putfield 56, 3) := by decide +kernel
theorem dX8_matched_125 : decode cX8_matched 125 = .ok (.aload_n 0, 1) := by decide +kernel
theorem dX8_matched_126 : decode cX8_matched 126 = .ok (.aload_n 1, 1) := by decide +kernel
theorem dX8_matched_127 : decode cX8_matched 127 = .ok (.invokevirtual 37, 3) := by decide +kernel
theorem dX8_matched_130 : decode cX8_matched 130 = .ok (.aload_n 0, 1) := by decide +kernel
theorem dX8_matched_131 : decode cX8_matched 131 = .ok (.getfield 41, 3) := by decide +kernel
theorem dX8_matched_134 : decode cX8_matched 134 = .ok (.iconst 1, 1) := by decide +kernel
theorem dX8_matched_135 : decode cX8_matched 135 = .ok (.if_icmp .ne 8, 3) := by decide +kernel
theorem dX8_matched_138 : decode cX8_matched 138 = .ok (.bipush (-2), 2) := by decide +kernel
theorem dX8_matched_140 : decode cX8_matched 140 = .ok (.goto 4, 3) := by decide +kernel
theorem dX8_matched_143 : decode cX8_matched 143 = .ok (.iconst (-1), 1) := by decide +kernel
theorem dX8_matched_144 : decode cX8_matched 144 = .ok (.ireturn, 1) := by decide +kernel
theorem dX8_copyWhole_0 : decode cX8_copyWhole 0 = .ok (.aload_n 0, 1) := by decide +kernel
theorem dX8_copyWhole_1 : decode cX8_copyWhole 1 = .ok (.getfield 21, 3) := by decide +kernel
theorem dX8_copyWhole_4 : decode cX8_copyWhole 4 = .ok (.iconst 0, 1) := by decide +kernel
theorem dX8_copyWhole_5 : decode cX8_copyWhole 5 = .ok (.invokevirtual 59, 3) := by decide +kernel
theorem dX8_copyWhole_8 : decode cX8_copyWhole 8 = .ok (.iload_n 2, 1) := by decide +kernel
theorem dX8_copyWhole_9 : decode cX8_copyWhole 9 = .ok (.istore 4, 2) := by decide +kernel
theorem dX8_copyWhole_11 : decode cX8_copyWhole 11 = .ok (.iload 4, 2) := by decide +kernel
theorem dX8_copyWhole_13 : decode cX8_copyWhole 13 = .ok (.iload_n 3, 1) := by decide +kernel
theorem dX8_copyWhole_14 : decode cX8_copyWhole 14 = .ok (.if_icmp .ge 34, 3) := by decide +kernel
theorem dX8_copyWhole_17 : decode cX8_copyWhole 17 = .ok (.aload_n 0, 1) := by decide +kernel
theorem dX8_copyWhole_18 : decode cX8_copyWhole 18 = .ok (.getfield 21, 3) := by decide +kernel
theorem dX8_copyWhole_21 : decode cX8_copyWhole 21 = .ok (.invokevirtual 63, 3) := by decide +kernel
theorem dX8_copyWhole_24 : decode cX8_copyWhole 24 = .ok (.bipush 7, 2) := by decide +kernel
theorem dX8_copyWhole_26 : decode cX8_copyWhole 26 = .ok (.if_icmp .gt 22, 3) := by decide +kernel
theorem dX8_copyWhole_29 : decode cX8_copyWhole 29 = .ok (.aload_n 0, 1) := by decide +kernel
theorem dX8_copyWhole_30 : decode cX8_copyWhole 30 = .ok (.getfield 21, 3) := by decide +kernel
theorem dX8_copyWhole_33 : decode cX8_copyWhole 33 = .ok (.aload_n 1, 1) := by decide +kernel
theorem dX8_copyWhole_34 : decode cX8_copyWhole 34 = .ok (.iload 4, 2) := by decide +kernel
theorem dX8_copyWhole_36 : decode cX8_copyWhole 36 = .ok (.invokevirtual 67, 3) := by decide +kernel
theorem dX8_copyWhole_39 : decode cX8_copyWhole 39 = .ok (.invokevirtual 71, 3) := by decide +kernel
theorem dX8_copyWhole_42 : decode cX8_copyWhole 42 = .ok (.iinc 4 1, 3) := by decide +kernel
theorem dX8_copyWhole_45 : decode cX8_copyWhole 45 = .ok (.goto (-34), 3) := by decide +kernel
theorem dX8_copyWhole_48 : decode cX8_copyWhole 48 = .ok (.aload_n 0, 1) := by decide +kernel
theorem dX8_copyWhole_49 : decode cX8_copyWhole 49 = .ok (.getfield 21, 3) := by decide +kernel
theorem dX8_copyWhole_52 : decode cX8_copyWhole 52 = .ok (.aload_n 0, 1) := by decide +kernel
theorem dX8_copyWhole_53 : decode cX8_copyWhole 53 = .ok (.getfield 21, 3) := by decide +kernel
theorem dX8_copyWhole_56 : decode cX8_copyWhole 56 = .ok (.invokevirtual 63, 3) := by decide +kernel
theorem dX8_copyWhole_59 : decode cX8_copyWhole 59 = .ok (.iconst 1, 1) := by decide +kernel
theorem dX8_copyWhole_60 : decode cX8_copyWhole 60 = .ok (.isub, 1) := by decide +kernel
theorem dX8_copyWhole_61 : decode cX8_copyWhole 61 = .ok (.invokevirtual 67, 3) := by decide +kernel
theorem dX8_copyWhole_64 : decode cX8_copyWhole 64 = .ok (.istore 4, 2) := by decide +kernel
theorem dX8_copyWhole_66 : decode cX8_copyWhole 66 = .ok (.aload_n 0, 1) := by decide +kernel
theorem dX8_copyWhole_67 : decode cX8_copyWhole 67 = .ok (.iload 4, 2) := by decide +kernel
theorem dX8_copyWhole_69 : decode cX8_copyWhole 69 = .ok (.bipush 43, 2) := by decide +kernel
theorem dX8_copyWhole_71 : decode cX8_copyWhole 71 = .ok (.if_icmp .eq 10, 3) := by decide +kernel
theorem dX8_copyWhole_74 : decode cX8_copyWhole 74 = .ok (.iload 4, 2) := by decide +kernel
theorem dX8_copyWhole_76 : decode cX8_copyWhole 76 = .ok (.bipush 35, 2) := by decide +kernel
theorem dX8_copyWhole_78 : decode cX8_copyWhole 78 = .ok (.if_icmp .ne 8, 3) := by decide +kernel
theorem dX8_copyWhole_81 : decode cX8_copyWhole 81 = .ok (.iload 4, 2) := by decide +kernel
theorem dX8_copyWhole_83 : decode cX8_copyWhole 83 = .ok (.goto 4, 3) := by decide +kernel
theorem dX8_copyWhole_86 : decode cX8_copyWhole 86 = .ok (.iconst 0, 1) := by decide +kernel
theorem dX8_copyWhole_87 : decode cX8_copyWhole 87 = .ok (.putfield 45, 3) := by decide +kernel
theorem dX8_copyWhole_90 : decode cX8_copyWhole 90 = .ok (.aload_n 0, 1) := by decide +kernel
theorem dX8_copyWhole_91 : decode cX8_copyWhole 91 = .ok (.getfield 45, 3) := by decide +kernel
theorem dX8_copyWhole_94 : decode cX8_copyWhole 94 = .ok (.ifCond .eq 19, 3) := by decide +kernel
theorem dX8_copyWhole_97 : decode cX8_copyWhole 97 = .ok (.aload_n 0, 1) := by decide +kernel
theorem dX8_copyWhole_98 : decode cX8_copyWhole 98 = .ok (.getfield 21, 3) := by decide +kernel
theorem dX8_copyWhole_101 : decode cX8_copyWhole 101 = .ok (.aload_n 0, 1) := by decide +kernel
theorem dX8_copyWhole_102 : decode cX8_copyWhole 102 = .ok (.getfield 21, 3) := by decide +kernel
theorem dX8_copyWhole_105 : decode cX8_copyWhole 105 = .ok (.invokevirtual 63, 3) := by decide +kernel
theorem dX8_copyWhole_108 : decode cX8_copyWhole 108 = .ok (.iconst 1, 1) := by decide +kernel
theorem dX8_copyWhole_109 : decode cX8_copyWhole 109 = .ok (.isub, 1) := by decide +kernel
theorem dX8_copyWhole_110 : decode cX8_copyWhole 110 = .ok (.invokevirtual 59, 3) := by decide +kernel
theorem dX8_copyWhole_113 : decode cX8_copyWhole 113 = .ok (.return_, 1) := by decide +kernel
theorem dX8_copyBare_0 : decode cX8_copyBare 0 = .ok (.aload_n 0, 1) := by decide +kernel
theorem dX8_copyBare_1 : decode cX8_copyBare 1 = .ok (.getfield 21, 3) := by decide +kernel
theorem dX8_copyBare_4 : decode cX8_copyBare 4 = .ok (.iconst 0, 1) := by decide +kernel
theorem dX8_copyBare_5 : decode cX8_copyBare 5 = .ok (.invokevirtual 59, 3) := by decide +kernel
theorem dX8_copyBare_8 : decode cX8_copyBare 8 = .ok (.iload_n 2, 1) := by decide +kernel
theorem dX8_copyBare_9 : decode cX8_copyBare 9 = .ok (.istore 4, 2) := by decide +kernel
theorem dX8_copyBare_11 : decode cX8_copyBare 11 = .ok (.iload 4, 2) := by decide +kernel
theorem dX8_copyBare_13 : decode cX8_copyBare 13 = .ok (.iload_n 3, 1) := by decide +kernel
theorem dX8_copyBare_14 : decode cX8_copyBare 14 = .ok (.if_icmp .ge 59, 3) := by decide +kernel
theorem dX8_copyBare_17 : decode cX8_copyBare 17 = .ok (.aload_n 0, 1) := by decide +kernel
theorem dX8_copyBare_18 : decode cX8_copyBare 18 = .ok (.getfield 21, 3) := by decide +kernel
theorem dX8_copyBare_21 : decode cX8_copyBare 21 = .ok (.invokevirtual 63, 3) := by decide +kernel
theorem dX8_copyBare_24 : decode cX8_copyBare 24 = .ok (.bipush 7, 2) := by decide +kernel
theorem dX8_copyBare_26 : decode cX8_copyBare 26 = .ok (.if_icmp .gt 47, 3) := by decide +kernel
theorem dX8_copyBare_29 : decode cX8_copyBare 29 = .ok (.aload_n 1, 1) := by decide +kernel
theorem dX8_copyBare_30 : decode cX8_copyBare 30 = .ok (.iload 4, 2) := by decide +kernel
theorem dX8_copyBare_32 : decode cX8_copyBare 32 = .ok (.invokevirtual 67, 3) := by decide +kernel
theorem dX8_copyBare_35 : decode cX8_copyBare 35 = .ok (.istore 5, 2) := by decide +kernel
theorem dX8_copyBare_37 : decode cX8_copyBare 37 = .ok (.iload 5, 2) := by decide +kernel
theorem dX8_copyBare_39 : decode cX8_copyBare 39 = .ok (.bipush 120, 2) := by decide +kernel
theorem dX8_copyBare_41 : decode cX8_copyBare 41 = .ok (.if_icmp .eq 26, 3) := by decide +kernel
theorem dX8_copyBare_44 : decode cX8_copyBare 44 = .ok (.iload 5, 2) := by decide +kernel
theorem dX8_copyBare_46 : decode cX8_copyBare 46 = .ok (.bipush 43, 2) := by decide +kernel
theorem dX8_copyBare_48 : decode cX8_copyBare 48 = .ok (.if_icmp .eq 19, 3) := by decide +kernel
theorem dX8_copyBare_51 : decode cX8_copyBare 51 = .ok (.iload 5, 2) := by decide +kernel
theorem dX8_copyBare_53 : decode cX8_copyBare 53 = .ok (.bipush 35, 2) := by decide +kernel
theorem dX8_copyBare_55 : decode cX8_copyBare 55 = .ok (.if_icmp .eq 12, 3) := by decide +kernel
theorem dX8_copyBare_58 : decode cX8_copyBare 58 = .ok (.aload_n 0, 1) := by decide +kernel
theorem dX8_copyBare_59 : decode cX8_copyBare 59 = .ok (.getfield 21, 3) := by decide +kernel
theorem dX8_copyBare_62 : decode cX8_copyBare 62 = .ok (.iload 5, 2) := by decide +kernel
theorem dX8_copyBare_64 : decode cX8_copyBare 64 = .ok (.invokevirtual 71, 3) := by decide +kernel
theorem dX8_copyBare_67 : decode cX8_copyBare 67 = .ok (.iinc 4 1, 3) := by decide +kernel
theorem dX8_copyBare_70 : decode cX8_copyBare 70 = .ok (.goto (-59), 3) := by decide +kernel
theorem dX8_copyBare_73 : decode cX8_copyBare 73 = .ok (.return_, 1) := by decide +kernel
theorem dX8_parse_0 : decode cX8_parse 0 = .ok (.aload_n 0, 1) := by decide +kernel
theorem dX8_parse_1 : decode cX8_parse 1 = .ok (.iconst 0, 1) := by decide +kernel
theorem dX8_parse_2 : decode cX8_parse 2 = .ok (.putfield 75, 3) := by decide +kernel
theorem dX8_parse_5 : decode cX8_parse 5 = .ok (.aload_n 0, 1) := by decide +kernel
theorem dX8_parse_6 : decode cX8_parse 6 = .ok (.aload_n 0, 1) := by decide +kernel
theorem dX8_parse_7 : decode cX8_parse 7 = .ok (.getfield 21, 3) := by decide +kernel
theorem dX8_parse_10 : decode cX8_parse 10 = .ok (.ldc 78, 2) := by decide +kernel
theorem dX8_parse_12 : decode cX8_parse 12 = .ok (.invokevirtual 80, 3) := by decide +kernel
theorem dX8_parse_15 : decode cX8_parse 15 = .ok (.ifCond .eq 7, 3) := by decide +kernel
theorem dX8_parse_18 : decode cX8_parse 18 = .ok (.iconst 2, 1) := by decide +kernel
theorem dX8_parse_19 : decode cX8_parse 19 = .ok (.goto 21, 3) := by decide +kernel
theorem dX8_parse_22 : decode cX8_parse 22 = .ok (.aload_n 0, 1) := by decide +kernel
theorem dX8_parse_23 : decode cX8_parse 23 = .ok (.getfield 21, 3) := by decide +kernel
theorem dX8_parse_26 : decode cX8_parse 26 = .ok (.ldc 84, 2) := by decide +kernel
theorem dX8_parse_28 : decode cX8_parse 28 = .ok (.invokevirtual 80, 3) := by decide +kernel
theorem dX8_parse_31 : decode cX8_parse 31 = .ok (.ifCond .eq 8, 3) := by decide +kernel
theorem dX8_parse_34 : decode cX8_parse 34 = .ok (.bipush (-2), 2) := by decide +kernel
theorem dX8_parse_36 : decode cX8_parse 36 = .ok (.goto 4, 3) := by decide +kernel
theorem dX8_parse_39 : decode cX8_parse 39 = .ok (.iconst 0, 1) := by decide +kernel
theorem dX8_parse_40 : decode cX8_parse 40 = .ok (.putfield 86, 3) := by decide +kernel
theorem dX8_parse_43 : decode cX8_parse 43 = .ok (.aload_n 0, 1) := by decide +kernel
theorem dX8_parse_44 : decode cX8_parse 44 = .ok (.getfield 86, 3) := by decide +kernel
theorem dX8_parse_47 : decode cX8_parse 47 = .ok (.ifCond .eq 5, 3) := by decide +kernel
theorem dX8_parse_50 : decode cX8_parse 50 = .ok (.iconst 1, 1) := by decide +kernel
theorem dX8_parse_51 : decode cX8_parse 51 = .ok (.ireturn, 1) := by decide +kernel
theorem dX8_parse_52 : decode cX8_parse 52 = .ok (.aload_n 0, 1) := by decide +kernel
theorem dX8_parse_53 : decode cX8_parse 53 = .ok (.getfield 21, 3) := by decide +kernel
theorem dX8_parse_56 : decode cX8_parse 56 = .ok (.iconst 0, 1) := by decide +kernel
theorem dX8_parse_57 : decode cX8_parse 57 = .ok (.invokevirtual 67, 3) := by decide +kernel
theorem dX8_parse_60 : decode cX8_parse 60 = .ok (.invokestatic 89, 3) := by decide +kernel
theorem dX8_parse_63 : decode cX8_parse 63 = .ok (.iconst 2, 1) := by decide +kernel
theorem dX8_parse_64 : decode cX8_parse 64 = .ok (.if_icmp .lt 7, 3) := by decide +kernel
theorem dX8_parse_67 : decode cX8_parse 67 = .ok (.iconst 1, 1) := by decide +kernel
theorem dX8_parse_68 : decode cX8_parse 68 = .ok (.goto 4, 3) := by decide +kernel
theorem dX8_parse_71 : decode cX8_parse 71 = .ok (.iconst 0, 1) := by decide +kernel
theorem dX8_parse_72 : decode cX8_parse 72 = .ok (.istore_n 1, 1) := by decide +kernel
theorem dX8_parse_73 : decode cX8_parse 73 = .ok (.aload_n 0, 1) := by decide +kernel
theorem dX8_parse_74 : decode cX8_parse 74 = .ok (.getfield 21, 3) := by decide +kernel
theorem dX8_parse_77 : decode cX8_parse 77 = .ok (.invokevirtual 63, 3) := by decide +kernel
theorem dX8_parse_80 : decode cX8_parse 80 = .ok (.istore_n 2, 1) := by decide +kernel
theorem dX8_parse_81 : decode cX8_parse 81 = .ok (.aload_n 0, 1) := by decide +kernel
theorem dX8_parse_82 : decode cX8_parse 82 = .ok (.iload_n 1, 1) := by decide +kernel
theorem dX8_parse_83 : decode cX8_parse 83 = .ok (.iconst 1, 1) := by decide +kernel
theorem dX8_parse_84 : decode cX8_parse 84 = .ok (.if_icmp .ne 17, 3) := by decide +kernel
theorem dX8_parse_87 : decode cX8_parse 87 = .ok (.aload_n 0, 1) := by decide +kernel
theorem dX8_parse_88 : decode cX8_parse 88 = .ok (.getfield 21, 3) := by decide +kernel
theorem dX8_parse_91 : decode cX8_parse 91 = .ok (.iconst 0, 1) := by decide +kernel
theorem dX8_parse_92 : decode cX8_parse 92 = .ok (.invokevirtual 67, 3) := by decide +kernel
theorem dX8_parse_95 : decode cX8_parse 95 = .ok (.invokestatic 89, 3) := by decide +kernel
theorem dX8_parse_98 : decode cX8_parse 98 = .ok (.goto 4, 3) := by decide +kernel
theorem dX8_parse_101 : decode cX8_parse 101 = .ok (.iconst 1, 1) := by decide +kernel
theorem dX8_parse_102 : decode cX8_parse 102 = .ok (.putfield 93, 3) := by decide +kernel
theorem dX8_parse_105 : decode cX8_parse 105 = .ok (.aload_n 0, 1) := by decide +kernel
theorem dX8_parse_106 : decode cX8_parse 106 = .ok (.getfield 93, 3) := by decide +kernel
theorem dX8_parse_109 : decode cX8_parse 109 = .ok (.iconst 1, 1) := by decide +kernel
theorem dX8_parse_110 : decode cX8_parse 110 = .ok (.if_icmp .ne 56, 3) := by decide +kernel
theorem dX8_parse_113 : decode cX8_parse 113 = .ok (.aload_n 0, 1) := by decide +kernel
theorem dX8_parse_114 : decode cX8_parse 114 = .ok (.getfield 21, 3) := by decide +kernel
theorem dX8_parse_117 : decode cX8_parse 117 = .ok (.iload_n 2, 1) := by decide +kernel
theorem dX8_parse_118 : decode cX8_parse 118 = .ok (.iconst 2, 1) := by decide +kernel
theorem dX8_parse_119 : decode cX8_parse 119 = .ok (.isub, 1) := by decide +kernel
theorem dX8_parse_120 : decode cX8_parse 120 = .ok (.invokevirtual 67, 3) := by decide +kernel
theorem dX8_parse_123 : decode cX8_parse 123 = .ok (.bipush 61, 2) := by decide +kernel
theorem dX8_parse_125 : decode cX8_parse 125 = .ok (.if_icmp .ne 41, 3) := by decide +kernel
theorem dX8_parse_128 : decode cX8_parse 128 = .ok (.aload_n 0, 1) := by decide +kernel
theorem dX8_parse_129 : decode cX8_parse 129 = .ok (.aload_n 0, 1) := by decide +kernel
theorem dX8_parse_130 : decode cX8_parse 130 = .ok (.getfield 21, 3) := by decide +kernel
theorem dX8_parse_133 : decode cX8_parse 133 = .ok (.iload_n 2, 1) := by decide +kernel
theorem dX8_parse_134 : decode cX8_parse 134 = .ok (.iconst 1, 1) := by decide +kernel
theorem dX8_parse_135 : decode cX8_parse 135 = .ok (.isub, 1) := by decide +kernel
theorem dX8_parse_136 : decode cX8_parse 136 = .ok (.invokevirtual 67, 3) := by decide +kernel
theorem dX8_parse_139 : decode cX8_parse 139 = .ok (.invokestatic 89, 3) := by decide +kernel
theorem dX8_parse_142 : decode cX8_parse 142 = .ok (.putfield 75, 3) := by decide +kernel
theorem dX8_parse_145 : decode cX8_parse 145 = .ok (.aload_n 0, 1) := by decide +kernel
theorem dX8_parse_146 : decode cX8_parse 146 = .ok (.getfield 75, 3) := by decide +kernel
theorem dX8_parse_149 : decode cX8_parse 149 = .ok (.iconst 2, 1) := by decide +kernel
theorem dX8_parse_150 : decode cX8_parse 150 = .ok (.if_icmp .lt 11, 3) := by decide +kernel
theorem dX8_parse_153 : decode cX8_parse 153 = .ok (.aload_n 0, 1) := by decide +kernel
theorem dX8_parse_154 : decode cX8_parse 154 = .ok (.getfield 75, 3) := by decide +kernel
theorem dX8_parse_157 : decode cX8_parse 157 = .ok (.iconst 5, 1) := by decide +kernel
theorem dX8_parse_158 : decode cX8_parse 158 = .ok (.if_icmp .le 5, 3) := by decide +kernel
theorem dX8_parse_161 : decode cX8_parse 161 = .ok (.iconst 0, 1) := by decide +kernel
theorem dX8_parse_162 : decode cX8_parse 162 = .ok (.ireturn, 1) := by decide +kernel
theorem dX8_parse_163 : decode cX8_parse 163 = .ok (.iinc 2 (-2), 3) := by decide +kernel
theorem dX8_parse_166 : decode cX8_parse 166 = .ok (.aload_n 0, 1) := by decide +kernel
theorem dX8_parse_167 : decode cX8_parse 167 = .ok (.aload_n 0, 1) := by decide +kernel
theorem dX8_parse_168 : decode cX8_parse 168 = .ok (.getfield 21, 3) := by decide +kernel
theorem dX8_parse_171 : decode cX8_parse 171 = .ok (.iload_n 2, 1) := by decide +kernel
theorem dX8_parse_172 : decode cX8_parse 172 = .ok (.iconst 2, 1) := by decide +kernel
theorem dX8_parse_173 : decode cX8_parse 173 = .ok (.isub, 1) := by decide +kernel
theorem dX8_parse_174 : decode cX8_parse 174 = .ok (.invokevirtual 67, 3) := by decide +kernel
theorem dX8_parse_177 : decode cX8_parse 177 = .ok (.aload_n 0, 1) := by decide +kernel
theorem dX8_parse_178 : decode cX8_parse 178 = .ok (.getfield 21, 3) := by decide +kernel
theorem dX8_parse_181 : decode cX8_parse 181 = .ok (.iload_n 2, 1) := by decide +kernel
theorem dX8_parse_182 : decode cX8_parse 182 = .ok (.iconst 1, 1) := by decide +kernel
theorem dX8_parse_183 : decode cX8_parse 183 = .ok (.isub, 1) := by decide +kernel
theorem dX8_parse_184 : decode cX8_parse 184 = .ok (.invokevirtual 67, 3) := by decide +kernel
theorem dX8_parse_187 : decode cX8_parse 187 = .ok (.invokestatic 96, 3) := by decide +kernel
theorem dX8_parse_190 : decode cX8_parse 190 = .ok (.putfield 100, 3) := by decide +kernel
theorem dX8_parse_193 : decode cX8_parse 193 = .ok (.iinc 2 (-2), 3) := by decide +kernel
theorem dX8_parse_196 : decode cX8_parse 196 = .ok (.aload_n 0, 1) := by decide +kernel
theorem dX8_parse_197 : decode cX8_parse 197 = .ok (.getfield 100, 3) := by decide +kernel
theorem dX8_parse_200 : decode cX8_parse 200 = .ok (.iconst (-1), 1) := by decide +kernel
theorem dX8_parse_201 : decode cX8_parse 201 = .ok (.if_icmp .ne 5, 3) := by decide +kernel
theorem dX8_parse_204 : decode cX8_parse 204 = .ok (.iconst 0, 1) := by decide +kernel
theorem dX8_parse_205 : decode cX8_parse 205 = .ok (.ireturn, 1) := by decide +kernel
theorem dX8_parse_206 : decode cX8_parse 206 = .ok (.aload_n 0, 1) := by decide +kernel
theorem dX8_parse_207 : decode cX8_parse 207 = .ok (.iload_n 2, 1) := by decide +kernel
theorem dX8_parse_208 : decode cX8_parse 208 = .ok (.iload_n 1, 1) := by decide +kernel
theorem dX8_parse_209 : decode cX8_parse 209 = .ok (.if_icmp .le 22, 3) := by decide +kernel
theorem dX8_parse_212 : decode cX8_parse 212 = .ok (.aload_n 0, 1) := by decide +kernel
theorem dX8_parse_213 : decode cX8_parse 213 = .ok (.getfield 21, 3) := by decide +kernel
theorem dX8_parse_216 : decode cX8_parse 216 = .ok (.iload_n 2, 1) := by decide +kernel
theorem dX8_parse_217 : decode cX8_parse 217 = .ok (.iconst 1, 1) := by decide +kernel
theorem dX8_parse_218 : decode cX8_parse 218 = .ok (.isub, 1) := by decide +kernel
theorem dX8_parse_219 : decode cX8_parse 219 = .ok (.invokevirtual 67, 3) := by decide +kernel
theorem dX8_parse_222 : decode cX8_parse 222 = .ok (.bipush 120, 2) := by decide +kernel
theorem dX8_parse_224 : decode cX8_parse 224 = .ok (.if_icmp .ne 7, 3) := by decide +kernel
theorem dX8_parse_227 : decode cX8_parse 227 = .ok (.iconst 1, 1) := by decide +kernel
theorem dX8_parse_228 : decode cX8_parse 228 = .ok (.goto 4, 3) := by decide +kernel
theorem dX8_parse_231 : decode cX8_parse 231 = .ok (.iconst 0, 1) := by decide +kernel
theorem dX8_parse_232 : decode cX8_parse 232 = .ok (.putfield 56, 3) := by decide +kernel
theorem dX8_parse_235 : decode cX8_parse 235 = .ok (.aload_n 0, 1) := by decide +kernel
theorem dX8_parse_236 : decode cX8_parse 236 = .ok (.iload_n 1, 1) := by decide +kernel
theorem dX8_parse_237 : decode cX8_parse 237 = .ok (.iload_n 2, 1) := by decide +kernel
theorem dX8_parse_238 : decode cX8_parse 238 = .ok (.aload_n 0, 1) := by decide +kernel
theorem dX8_parse_239 : decode cX8_parse 239 = .ok (.getfield 56, 3) := by decide +kernel
theorem dX8_parse_242 : decode cX8_parse 242 = .ok (.isub, 1) := by decide +kernel
theorem dX8_parse_243 : decode cX8_parse 243 = .ok (.invokevirtual 103, 3) := by decide +kernel
theorem dX8_parse_246 : decode cX8_parse 246 = .ok (.ireturn, 1) := by decide +kernel
theorem dX8_parseApart_0 : decode cX8_parseApart 0 = .ok (.iload_n 1, 1) := by decide +kernel
theorem dX8_parseApart_1 : decode cX8_parseApart 1 = .ok (.istore_n 3, 1) := by decide +kernel
theorem dX8_parseApart_2 : decode cX8_parseApart 2 = .ok (.aload_n 0, 1) := by decide +kernel
theorem dX8_parseApart_3 : decode cX8_parseApart 3 = .ok (.iconst (-1), 1) := by decide +kernel
theorem dX8_parseApart_4 : decode cX8_parseApart 4 = .ok (.putfield 107, 3) := by decide +kernel
theorem dX8_parseApart_7 : decode cX8_parseApart 7 = .ok (.aload_n 0, 1) := by decide +kernel
theorem dX8_parseApart_8 : decode cX8_parseApart 8 = .ok (.iconst (-1), 1) := by decide +kernel
theorem dX8_parseApart_9 : decode cX8_parseApart 9 = .ok (.putfield 110, 3) := by decide +kernel
theorem dX8_parseApart_12 : decode cX8_parseApart 12 = .ok (.iload_n 3, 1) := by decide +kernel
theorem dX8_parseApart_13 : decode cX8_parseApart 13 = .ok (.iload_n 2, 1) := by decide +kernel
theorem dX8_parseApart_14 : decode cX8_parseApart 14 = .ok (.if_icmp .ge 35, 3) := by decide +kernel
theorem dX8_parseApart_17 : decode cX8_parseApart 17 = .ok (.aload_n 0, 1) := by decide +kernel
theorem dX8_parseApart_18 : decode cX8_parseApart 18 = .ok (.getfield 21, 3) := by decide +kernel
theorem dX8_parseApart_21 : decode cX8_parseApart 21 = .ok (.iload_n 3, 1) := by decide +kernel
theorem dX8_parseApart_22 : decode cX8_parseApart 22 = .ok (.invokevirtual 67, 3) := by decide +kernel
theorem dX8_parseApart_25 : decode cX8_parseApart 25 = .ok (.invokestatic 113, 3) := by decide +kernel
theorem dX8_parseApart_28 : decode cX8_parseApart 28 = .ok (.ifCond .eq 21, 3) := by decide +kernel
theorem dX8_parseApart_31 : decode cX8_parseApart 31 = .ok (.aload_n 0, 1) := by decide +kernel
theorem dX8_parseApart_32 : decode cX8_parseApart 32 = .ok (.aload_n 0, 1) := by decide +kernel
theorem dX8_parseApart_33 : decode cX8_parseApart 33 = .ok (.getfield 21, 3) := by decide +kernel
theorem dX8_parseApart_36 : decode cX8_parseApart 36 = .ok (.iload_n 3, 1) := by decide +kernel
theorem dX8_parseApart_37 : decode cX8_parseApart 37 = .ok (.invokevirtual 67, 3) := by decide +kernel
theorem dX8_parseApart_40 : decode cX8_parseApart 40 = .ok (.bipush 97, 2) := by decide +kernel
theorem dX8_parseApart_42 : decode cX8_parseApart 42 = .ok (.isub, 1) := by decide +kernel
theorem dX8_parseApart_43 : decode cX8_parseApart 43 = .ok (.putfield 107, 3) := by decide +kernel
theorem dX8_parseApart_46 : decode cX8_parseApart 46 = .ok (.iinc 3 1, 3) := by decide +kernel
theorem dX8_parseApart_49 : decode cX8_parseApart 49 = .ok (.iload_n 3, 1) := by decide +kernel
theorem dX8_parseApart_50 : decode cX8_parseApart 50 = .ok (.iload_n 2, 1) := by decide +kernel
theorem dX8_parseApart_51 : decode cX8_parseApart 51 = .ok (.if_icmp .ge 43, 3) := by decide +kernel
theorem dX8_parseApart_54 : decode cX8_parseApart 54 = .ok (.aload_n 0, 1) := by decide +kernel
theorem dX8_parseApart_55 : decode cX8_parseApart 55 = .ok (.getfield 93, 3) := by decide +kernel
theorem dX8_parseApart_58 : decode cX8_parseApart 58 = .ok (.iconst 1, 1) := by decide +kernel
theorem dX8_parseApart_59 : decode cX8_parseApart 59 = .ok (.if_icmp .eq 35, 3) := by decide +kernel
theorem dX8_parseApart_62 : decode cX8_parseApart 62 = .ok (.aload_n 0, 1) := by decide +kernel
theorem dX8_parseApart_63 : decode cX8_parseApart 63 = .ok (.getfield 21, 3) := by decide +kernel
theorem dX8_parseApart_66 : decode cX8_parseApart 66 = .ok (.iload_n 3, 1) := by decide +kernel
theorem dX8_parseApart_67 : decode cX8_parseApart 67 = .ok (.invokevirtual 67, 3) := by decide +kernel
theorem dX8_parseApart_70 : decode cX8_parseApart 70 = .ok (.invokestatic 117, 3) := by decide +kernel
theorem dX8_parseApart_73 : decode cX8_parseApart 73 = .ok (.ifCond .eq 21, 3) := by decide +kernel
theorem dX8_parseApart_76 : decode cX8_parseApart 76 = .ok (.aload_n 0, 1) := by decide +kernel
theorem dX8_parseApart_77 : decode cX8_parseApart 77 = .ok (.aload_n 0, 1) := by decide +kernel
theorem dX8_parseApart_78 : decode cX8_parseApart 78 = .ok (.getfield 21, 3) := by decide +kernel
theorem dX8_parseApart_81 : decode cX8_parseApart 81 = .ok (.iload_n 3, 1) := by decide +kernel
theorem dX8_parseApart_82 : decode cX8_parseApart 82 = .ok (.invokevirtual 67, 3) := by decide +kernel
theorem dX8_parseApart_85 : decode cX8_parseApart 85 = .ok (.bipush 49, 2) := by decide +kernel
theorem dX8_parseApart_87 : decode cX8_parseApart 87 = .ok (.isub, 1) := by decide +kernel
theorem dX8_parseApart_88 : decode cX8_parseApart 88 = .ok (.putfield 110, 3) := by decide +kernel
theorem dX8_parseApart_91 : decode cX8_parseApart 91 = .ok (.iinc 3 1, 3) := by decide +kernel
theorem dX8_parseApart_94 : decode cX8_parseApart 94 = .ok (.iload_n 3, 1) := by decide +kernel
theorem dX8_parseApart_95 : decode cX8_parseApart 95 = .ok (.iload_n 2, 1) := by decide +kernel
theorem dX8_parseApart_96 : decode cX8_parseApart 96 = .ok (.if_icmp .ne 7, 3) := by decide +kernel
theorem dX8_parseApart_99 : decode cX8_parseApart 99 = .ok (.iconst 1, 1) := by decide +kernel
theorem dX8_parseApart_100 : decode cX8_parseApart 100 = .ok (.goto 4, 3) := by decide +kernel
theorem dX8_parseApart_103 : decode cX8_parseApart 103 = .ok (.iconst 0, 1) := by decide +kernel
theorem dX8_parseApart_104 : decode cX8_parseApart 104 = .ok (.ireturn, 1) := by decide +kernel
theorem dX8_gather_0 : decode cX8_gather 0 = .ok (.aload_n 0, 1) := by decide +kernel
theorem dX8_gather_1 : decode cX8_gather 1 = .ok (.iconst 0, 1) := by decide +kernel
theorem dX8_gather_2 : decode cX8_gather 2 = .ok (.putfield 41, 3) := by decide +kernel
theorem dX8_gather_5 : decode cX8_gather 5 = .ok (.aload_n 1, 1) := by decide +kernel
theorem dX8_gather_6 : decode cX8_gather 6 = .ok (.getfield 120, 3) := by decide +kernel
theorem dX8_gather_9 : decode cX8_gather 9 = .ok (.ifCond .ne 7, 3) := by decide +kernel
theorem dX8_gather_12 : decode cX8_gather 12 = .ok (.iconst 4, 1) := by decide +kernel
theorem dX8_gather_13 : decode cX8_gather 13 = .ok (.goto 5, 3) := by decide +kernel
theorem dX8_gather_16 : decode cX8_gather 16 = .ok (.bipush 60, 2) := by decide +kernel
theorem dX8_gather_18 : decode cX8_gather 18 = .ok (.istore_n 2, 1) := by decide +kernel
theorem dX8_gather_19 : decode cX8_gather 19 = .ok (.aload_n 0, 1) := by decide +kernel
theorem dX8_gather_20 : decode cX8_gather 20 = .ok (.getfield 86, 3) := by decide +kernel
theorem dX8_gather_23 : decode cX8_gather 23 = .ok (.ifCond .eq 13, 3) := by decide +kernel
theorem dX8_gather_26 : decode cX8_gather 26 = .ok (.aload_n 0, 1) := by decide +kernel
theorem dX8_gather_27 : decode cX8_gather 27 = .ok (.iload_n 2, 1) := by decide +kernel
theorem dX8_gather_28 : decode cX8_gather 28 = .ok (.aload_n 0, 1) := by decide +kernel
theorem dX8_gather_29 : decode cX8_gather 29 = .ok (.getfield 86, 3) := by decide +kernel
theorem dX8_gather_32 : decode cX8_gather 32 = .ok (.iadd, 1) := by decide +kernel
theorem dX8_gather_33 : decode cX8_gather 33 = .ok (.putfield 100, 3) := by decide +kernel
theorem dX8_gather_36 : decode cX8_gather 36 = .ok (.iconst 0, 1) := by decide +kernel
theorem dX8_gather_37 : decode cX8_gather 37 = .ok (.istore_n 3, 1) := by decide +kernel
theorem dX8_gather_38 : decode cX8_gather 38 = .ok (.iload_n 3, 1) := by decide +kernel
theorem dX8_gather_39 : decode cX8_gather 39 = .ok (.bipush 64, 2) := by decide +kernel
theorem dX8_gather_41 : decode cX8_gather 41 = .ok (.if_icmp .ge 120, 3) := by decide +kernel
theorem dX8_gather_44 : decode cX8_gather 44 = .ok (.aload_n 0, 1) := by decide +kernel
theorem dX8_gather_45 : decode cX8_gather 45 = .ok (.getfield 86, 3) := by decide +kernel
theorem dX8_gather_48 : decode cX8_gather 48 = .ok (.ifCond .eq 28, 3) := by decide +kernel
theorem dX8_gather_51 : decode cX8_gather 51 = .ok (.iload_n 3, 1) := by decide +kernel
theorem dX8_gather_52 : decode cX8_gather 52 = .ok (.iload_n 2, 1) := by decide +kernel
theorem dX8_gather_53 : decode cX8_gather 53 = .ok (.if_icmp .ne 19, 3) := by decide +kernel
theorem dX8_gather_56 : decode cX8_gather 56 = .ok (.aload_n 1, 1) := by decide +kernel
theorem dX8_gather_57 : decode cX8_gather 57 = .ok (.iload_n 3, 1) := by decide +kernel
theorem dX8_gather_58 : decode cX8_gather 58 = .ok (.aload_n 0, 1) := by decide +kernel
theorem dX8_gather_59 : decode cX8_gather 59 = .ok (.getfield 100, 3) := by decide +kernel
theorem dX8_gather_62 : decode cX8_gather 62 = .ok (.invokevirtual 125, 3) := by decide +kernel
theorem dX8_gather_65 : decode cX8_gather 65 = .ok (.ifCond .eq 7, 3) := by decide +kernel
theorem dX8_gather_68 : decode cX8_gather 68 = .ok (.iconst 1, 1) := by decide +kernel
theorem dX8_gather_69 : decode cX8_gather 69 = .ok (.goto 13, 3) := by decide +kernel
theorem dX8_gather_72 : decode cX8_gather 72 = .ok (.iconst 0, 1) := by decide +kernel
theorem dX8_gather_73 : decode cX8_gather 73 = .ok (.goto 9, 3) := by decide +kernel
theorem dX8_gather_76 : decode cX8_gather 76 = .ok (.aload_n 0, 1) := by decide +kernel
theorem dX8_gather_77 : decode cX8_gather 77 = .ok (.aload_n 1, 1) := by decide +kernel
theorem dX8_gather_78 : decode cX8_gather 78 = .ok (.iload_n 3, 1) := by decide +kernel
theorem dX8_gather_79 : decode cX8_gather 79 = .ok (.invokevirtual 128, 3) := by decide +kernel
theorem dX8_gather_82 : decode cX8_gather 82 = .ok (.istore 4, 2) := by decide +kernel
theorem dX8_gather_84 : decode cX8_gather 84 = .ok (.iload_n 3, 1) := by decide +kernel
theorem dX8_gather_85 : decode cX8_gather 85 = .ok (.bipush 64, 2) := by decide +kernel
theorem dX8_gather_87 : decode cX8_gather 87 = .ok (.aload_n 0, 1) := by decide +kernel
theorem dX8_gather_88 : decode cX8_gather 88 = .ok (.getfield 100, 3) := by decide +kernel
theorem dX8_gather_91 : decode cX8_gather 91 = .ok (.imul, 1) := by decide +kernel
theorem dX8_gather_92 : decode cX8_gather 92 = .ok (.iadd, 1) := by decide +kernel
theorem dX8_gather_93 : decode cX8_gather 93 = .ok (.sipush 4096, 3) := by decide +kernel
theorem dX8_gather_96 : decode cX8_gather 96 = .ok (.aload_n 0, 1) := by decide +kernel
theorem dX8_gather_97 : decode cX8_gather 97 = .ok (.getfield 75, 3) := by decide +kernel
theorem dX8_gather_100 : decode cX8_gather 100 = .ok (.imul, 1) := by decide +kernel
theorem dX8_gather_101 : decode cX8_gather 101 = .ok (.iadd, 1) := by decide +kernel
theorem dX8_gather_102 : decode cX8_gather 102 = .ok (.istore 5, 2) := by decide +kernel
theorem dX8_gather_104 : decode cX8_gather 104 = .ok (.iload 4, 2) := by decide +kernel
theorem dX8_gather_106 : decode cX8_gather 106 = .ok (.ifCond .eq 49, 3) := by decide +kernel
theorem dX8_gather_109 : decode cX8_gather 109 = .ok (.aload_n 1, 1) := by decide +kernel
theorem dX8_gather_110 : decode cX8_gather 110 = .ok (.iload_n 3, 1) := by decide +kernel
theorem dX8_gather_111 : decode cX8_gather 111 = .ok (.aload_n 0, 1) := by decide +kernel
theorem dX8_gather_112 : decode cX8_gather 112 = .ok (.getfield 100, 3) := by decide +kernel
theorem dX8_gather_115 : decode cX8_gather 115 = .ok (.invokevirtual 132, 3) := by decide +kernel
theorem dX8_gather_118 : decode cX8_gather 118 = .ok (.ifCond .eq 37, 3) := by decide +kernel
theorem dX8_gather_121 : decode cX8_gather 121 = .ok (.aload_n 0, 1) := by decide +kernel
theorem dX8_gather_122 : decode cX8_gather 122 = .ok (.getfield 12, 3) := by decide +kernel
theorem dX8_gather_125 : decode cX8_gather 125 = .ok (.aload_n 1, 1) := by decide +kernel
theorem dX8_gather_126 : decode cX8_gather 126 = .ok (.iload 5, 2) := by decide +kernel
theorem dX8_gather_128 : decode cX8_gather 128 = .ok (.invokevirtual 135, 3) := by decide +kernel
theorem dX8_gather_131 : decode cX8_gather 131 = .ok (.ifCond .eq 24, 3) := by decide +kernel
theorem dX8_gather_134 : decode cX8_gather 134 = .ok (.aload_n 0, 1) := by decide +kernel
theorem dX8_gather_135 : decode cX8_gather 135 = .ok (.getfield 25, 3) := by decide +kernel
theorem dX8_gather_138 : decode cX8_gather 138 = .ok (.aload_n 0, 1) := by decide +kernel
theorem dX8_gather_139 : decode cX8_gather 139 = .ok (.getfield 41, 3) := by decide +kernel
theorem dX8_gather_142 : decode cX8_gather 142 = .ok (.iload 5, 2) := by decide +kernel
theorem dX8_gather_144 : decode cX8_gather 144 = .ok (.iastore, 1) := by decide +kernel
theorem dX8_gather_145 : decode cX8_gather 145 = .ok (.aload_n 0, 1) := by decide +kernel
theorem dX8_gather_146 : decode cX8_gather 146 = .ok (.dup, 1) := by decide +kernel
theorem dX8_gather_147 : decode cX8_gather 147 = .ok (.getfield 41, 3) := by decide +kernel
theorem dX8_gather_150 : decode cX8_gather 150 = .ok (.iconst 1, 1) := by decide +kernel
theorem dX8_gather_151 : decode cX8_gather 151 = .ok (.iadd, 1) := by decide +kernel
theorem dX8_gather_152 : decode cX8_gather 152 = .ok (.putfield 41, 3) := by decide +kernel
theorem dX8_gather_155 : decode cX8_gather 155 = .ok (.iinc 3 1, 3) := by decide +kernel
theorem dX8_gather_158 : decode cX8_gather 158 = .ok (.goto (-120), 3) := by decide +kernel
theorem dX8_gather_161 : decode cX8_gather 161 = .ok (.return_, 1) := by decide +kernel
theorem dX8_fitsFrom_0 : decode cX8_fitsFrom 0 = .ok (.aload_n 1, 1) := by decide +kernel
theorem dX8_fitsFrom_1 : decode cX8_fitsFrom 1 = .ok (.getfield 138, 3) := by decide +kernel
theorem dX8_fitsFrom_4 : decode cX8_fitsFrom 4 = .ok (.iload_n 2, 1) := by decide +kernel
theorem dX8_fitsFrom_5 : decode cX8_fitsFrom 5 = .ok (.iaload, 1) := by decide +kernel
theorem dX8_fitsFrom_6 : decode cX8_fitsFrom 6 = .ok (.aload_n 0, 1) := by decide +kernel
theorem dX8_fitsFrom_7 : decode cX8_fitsFrom 7 = .ok (.getfield 93, 3) := by decide +kernel
theorem dX8_fitsFrom_10 : decode cX8_fitsFrom 10 = .ok (.bipush 8, 2) := by decide +kernel
theorem dX8_fitsFrom_12 : decode cX8_fitsFrom 12 = .ok (.aload_n 1, 1) := by decide +kernel
theorem dX8_fitsFrom_13 : decode cX8_fitsFrom 13 = .ok (.getfield 120, 3) := by decide +kernel
theorem dX8_fitsFrom_16 : decode cX8_fitsFrom 16 = .ok (.imul, 1) := by decide +kernel
theorem dX8_fitsFrom_17 : decode cX8_fitsFrom 17 = .ok (.iadd, 1) := by decide +kernel
theorem dX8_fitsFrom_18 : decode cX8_fitsFrom 18 = .ok (.if_icmp .ne 52, 3) := by decide +kernel
theorem dX8_fitsFrom_21 : decode cX8_fitsFrom 21 = .ok (.aload_n 1, 1) := by decide +kernel
theorem dX8_fitsFrom_22 : decode cX8_fitsFrom 22 = .ok (.iload_n 2, 1) := by decide +kernel
theorem dX8_fitsFrom_23 : decode cX8_fitsFrom 23 = .ok (.aload_n 0, 1) := by decide +kernel
theorem dX8_fitsFrom_24 : decode cX8_fitsFrom 24 = .ok (.getfield 100, 3) := by decide +kernel
theorem dX8_fitsFrom_27 : decode cX8_fitsFrom 27 = .ok (.invokevirtual 125, 3) := by decide +kernel
theorem dX8_fitsFrom_30 : decode cX8_fitsFrom 30 = .ok (.ifCond .ne 40, 3) := by decide +kernel
theorem dX8_fitsFrom_33 : decode cX8_fitsFrom 33 = .ok (.aload_n 0, 1) := by decide +kernel
theorem dX8_fitsFrom_34 : decode cX8_fitsFrom 34 = .ok (.getfield 107, 3) := by decide +kernel
theorem dX8_fitsFrom_37 : decode cX8_fitsFrom 37 = .ok (.iconst (-1), 1) := by decide +kernel
theorem dX8_fitsFrom_38 : decode cX8_fitsFrom 38 = .ok (.if_icmp .eq 14, 3) := by decide +kernel
theorem dX8_fitsFrom_41 : decode cX8_fitsFrom 41 = .ok (.aload_n 0, 1) := by decide +kernel
theorem dX8_fitsFrom_42 : decode cX8_fitsFrom 42 = .ok (.getfield 107, 3) := by decide +kernel
theorem dX8_fitsFrom_45 : decode cX8_fitsFrom 45 = .ok (.iload_n 2, 1) := by decide +kernel
theorem dX8_fitsFrom_46 : decode cX8_fitsFrom 46 = .ok (.bipush 7, 2) := by decide +kernel
theorem dX8_fitsFrom_48 : decode cX8_fitsFrom 48 = .ok (.iand, 1) := by decide +kernel
theorem dX8_fitsFrom_49 : decode cX8_fitsFrom 49 = .ok (.if_icmp .ne 21, 3) := by decide +kernel
theorem dX8_fitsFrom_52 : decode cX8_fitsFrom 52 = .ok (.aload_n 0, 1) := by decide +kernel
theorem dX8_fitsFrom_53 : decode cX8_fitsFrom 53 = .ok (.getfield 110, 3) := by decide +kernel
theorem dX8_fitsFrom_56 : decode cX8_fitsFrom 56 = .ok (.iconst (-1), 1) := by decide +kernel
theorem dX8_fitsFrom_57 : decode cX8_fitsFrom 57 = .ok (.if_icmp .eq 15, 3) := by decide +kernel
theorem dX8_fitsFrom_60 : decode cX8_fitsFrom 60 = .ok (.aload_n 0, 1) := by decide +kernel
theorem dX8_fitsFrom_61 : decode cX8_fitsFrom 61 = .ok (.getfield 110, 3) := by decide +kernel
theorem dX8_fitsFrom_64 : decode cX8_fitsFrom 64 = .ok (.iload_n 2, 1) := by decide +kernel
theorem dX8_fitsFrom_65 : decode cX8_fitsFrom 65 = .ok (.iconst 3, 1) := by decide +kernel
theorem dX8_fitsFrom_66 : decode cX8_fitsFrom 66 = .ok (.ishr, 1) := by decide +kernel
theorem dX8_fitsFrom_67 : decode cX8_fitsFrom 67 = .ok (.if_icmp .eq 5, 3) := by decide +kernel
theorem dX8_fitsFrom_70 : decode cX8_fitsFrom 70 = .ok (.iconst 0, 1) := by decide +kernel
theorem dX8_fitsFrom_71 : decode cX8_fitsFrom 71 = .ok (.ireturn, 1) := by decide +kernel
theorem dX8_fitsFrom_72 : decode cX8_fitsFrom 72 = .ok (.aload_n 1, 1) := by decide +kernel
theorem dX8_fitsFrom_73 : decode cX8_fitsFrom 73 = .ok (.iload_n 2, 1) := by decide +kernel
theorem dX8_fitsFrom_74 : decode cX8_fitsFrom 74 = .ok (.aload_n 0, 1) := by decide +kernel
theorem dX8_fitsFrom_75 : decode cX8_fitsFrom 75 = .ok (.getfield 100, 3) := by decide +kernel
theorem dX8_fitsFrom_78 : decode cX8_fitsFrom 78 = .ok (.invokevirtual 141, 3) := by decide +kernel
theorem dX8_fitsFrom_81 : decode cX8_fitsFrom 81 = .ok (.istore_n 3, 1) := by decide +kernel
theorem dX8_fitsFrom_82 : decode cX8_fitsFrom 82 = .ok (.aload_n 0, 1) := by decide +kernel
theorem dX8_fitsFrom_83 : decode cX8_fitsFrom 83 = .ok (.getfield 93, 3) := by decide +kernel
theorem dX8_fitsFrom_86 : decode cX8_fitsFrom 86 = .ok (.iconst 1, 1) := by decide +kernel
theorem dX8_fitsFrom_87 : decode cX8_fitsFrom 87 = .ok (.if_icmp .ne 17, 3) := by decide +kernel
theorem dX8_fitsFrom_90 : decode cX8_fitsFrom 90 = .ok (.iload_n 3, 1) := by decide +kernel
theorem dX8_fitsFrom_91 : decode cX8_fitsFrom 91 = .ok (.ifCond .eq 13, 3) := by decide +kernel
theorem dX8_fitsFrom_94 : decode cX8_fitsFrom 94 = .ok (.aload_n 0, 1) := by decide +kernel
theorem dX8_fitsFrom_95 : decode cX8_fitsFrom 95 = .ok (.getfield 107, 3) := by decide +kernel
theorem dX8_fitsFrom_98 : decode cX8_fitsFrom 98 = .ok (.iconst (-1), 1) := by decide +kernel
theorem dX8_fitsFrom_99 : decode cX8_fitsFrom 99 = .ok (.if_icmp .ne 5, 3) := by decide +kernel
theorem dX8_fitsFrom_102 : decode cX8_fitsFrom 102 = .ok (.iconst 0, 1) := by decide +kernel
theorem dX8_fitsFrom_103 : decode cX8_fitsFrom 103 = .ok (.ireturn, 1) := by decide +kernel
theorem dX8_fitsFrom_104 : decode cX8_fitsFrom 104 = .ok (.aload_n 0, 1) := by decide +kernel
theorem dX8_fitsFrom_105 : decode cX8_fitsFrom 105 = .ok (.getfield 56, 3) := by decide +kernel
theorem dX8_fitsFrom_108 : decode cX8_fitsFrom 108 = .ok (.iconst (-1), 1) := by decide +kernel
theorem dX8_fitsFrom_109 : decode cX8_fitsFrom 109 = .ok (.if_icmp .eq 20, 3) := by decide +kernel
theorem dX8_fitsFrom_112 : decode cX8_fitsFrom 112 = .ok (.iload_n 3, 1) := by decide +kernel
theorem dX8_fitsFrom_113 : decode cX8_fitsFrom 113 = .ok (.aload_n 0, 1) := by decide +kernel
theorem dX8_fitsFrom_114 : decode cX8_fitsFrom 114 = .ok (.getfield 56, 3) := by decide +kernel
theorem dX8_fitsFrom_117 : decode cX8_fitsFrom 117 = .ok (.iconst 1, 1) := by decide +kernel
theorem dX8_fitsFrom_118 : decode cX8_fitsFrom 118 = .ok (.if_icmp .ne 7, 3) := by decide +kernel
theorem dX8_fitsFrom_121 : decode cX8_fitsFrom 121 = .ok (.iconst 1, 1) := by decide +kernel
theorem dX8_fitsFrom_122 : decode cX8_fitsFrom 122 = .ok (.goto 4, 3) := by decide +kernel
theorem dX8_fitsFrom_125 : decode cX8_fitsFrom 125 = .ok (.iconst 0, 1) := by decide +kernel
theorem dX8_fitsFrom_126 : decode cX8_fitsFrom 126 = .ok (.if_icmp .ne 31, 3) := by decide +kernel
theorem dX8_fitsFrom_129 : decode cX8_fitsFrom 129 = .ok (.aload_n 1, 1) := by decide +kernel
theorem dX8_fitsFrom_130 : decode cX8_fitsFrom 130 = .ok (.iload_n 2, 1) := by decide +kernel
theorem dX8_fitsFrom_131 : decode cX8_fitsFrom 131 = .ok (.aload_n 0, 1) := by decide +kernel
theorem dX8_fitsFrom_132 : decode cX8_fitsFrom 132 = .ok (.getfield 100, 3) := by decide +kernel
theorem dX8_fitsFrom_135 : decode cX8_fitsFrom 135 = .ok (.invokevirtual 144, 3) := by decide +kernel
theorem dX8_fitsFrom_138 : decode cX8_fitsFrom 138 = .ok (.aload_n 0, 1) := by decide +kernel
theorem dX8_fitsFrom_139 : decode cX8_fitsFrom 139 = .ok (.getfield 75, 3) := by decide +kernel
theorem dX8_fitsFrom_142 : decode cX8_fitsFrom 142 = .ok (.ifCond .eq 7, 3) := by decide +kernel
theorem dX8_fitsFrom_145 : decode cX8_fitsFrom 145 = .ok (.iconst 1, 1) := by decide +kernel
theorem dX8_fitsFrom_146 : decode cX8_fitsFrom 146 = .ok (.goto 4, 3) := by decide +kernel
theorem dX8_fitsFrom_149 : decode cX8_fitsFrom 149 = .ok (.iconst 0, 1) := by decide +kernel
theorem dX8_fitsFrom_150 : decode cX8_fitsFrom 150 = .ok (.if_icmp .ne 7, 3) := by decide +kernel
theorem dX8_fitsFrom_153 : decode cX8_fitsFrom 153 = .ok (.iconst 1, 1) := by decide +kernel
theorem dX8_fitsFrom_154 : decode cX8_fitsFrom 154 = .ok (.goto 4, 3) := by decide +kernel
theorem dX8_fitsFrom_157 : decode cX8_fitsFrom 157 = .ok (.iconst 0, 1) := by decide +kernel
theorem dX8_fitsFrom_158 : decode cX8_fitsFrom 158 = .ok (.ireturn, 1) := by decide +kernel
