theorem dX4_join_27 : decode cX4_join 27 = .ok (.iload_n 1, 1) := by decide +kernel
theorem dX4_join_28 : decode cX4_join 28 = .ok (.iload_n 2, 1) := by decide +kernel
theorem dX4_join_29 : decode cX4_join 29 = .ok (.invokevirtual 173, 3) := by decide +kernel
theorem dX4_join_32 : decode cX4_join 32 = .ok (.ireturn, 1) := by decide +kernel
theorem dX4_weight_0 : decode cX4_weight 0 = .ok (.iload_n 2, 1) := by decide +kernel
theorem dX4_weight_1 : decode cX4_weight 1 = .ok (.ifCond .le 26, 3) := by decide +kernel
theorem dX4_weight_4 : decode cX4_weight 4 = .ok (.iload_n 2, 1) := by decide +kernel
theorem dX4_weight_5 : decode cX4_weight 5 = .ok (.iconst 1, 1) := by decide +kernel
theorem dX4_weight_6 : decode cX4_weight 6 = .ok (.if_icmp .ne 8, 3) := by decide +kernel
theorem dX4_weight_9 : decode cX4_weight 9 = .ok (.ldc 176, 2) := by decide +kernel
theorem dX4_weight_11 : decode cX4_weight 11 = .ok (.goto 15, 3) := by decide +kernel
theorem dX4_weight_14 : decode cX4_weight 14 = .ok (.iload_n 2, 1) := by decide +kernel
theorem dX4_weight_15 : decode cX4_weight 15 = .ok (.iconst 2, 1) := by decide +kernel
theorem dX4_weight_16 : decode cX4_weight 16 = .ok (.if_icmp .ne 8, 3) := by decide +kernel
theorem dX4_weight_19 : decode cX4_weight 19 = .ok (.ldc 177, 2) := by decide +kernel
theorem dX4_weight_21 : decode cX4_weight 21 = .ok (.goto 5, 3) := by decide +kernel
theorem dX4_weight_24 : decode cX4_weight 24 = .ok (.ldc 178, 2) := by decide +kernel
theorem dX4_weight_26 : decode cX4_weight 26 = .ok (.freturn, 1) := by decide +kernel
theorem dX4_weight_27 : decode cX4_weight 27 = .ok (.fconst 1, 1) := by decide +kernel
theorem dX4_weight_28 : decode cX4_weight 28 = .ok (.fstore_n 3, 1) := by decide +kernel
theorem dX4_weight_29 : decode cX4_weight 29 = .ok (.aload_n 0, 1) := by decide +kernel
theorem dX4_weight_30 : decode cX4_weight 30 = .ok (.iload_n 1, 1) := by decide +kernel
theorem dX4_weight_31 : decode cX4_weight 31 = .ok (.invokevirtual 103, 3) := by decide +kernel
theorem dX4_weight_34 : decode cX4_weight 34 = .ok (.istore 4, 2) := by decide +kernel
theorem dX4_weight_36 : decode cX4_weight 36 = .ok (.iload 4, 2) := by decide +kernel
theorem dX4_weight_38 : decode cX4_weight 38 = .ok (.ifCond .le 14, 3) := by decide +kernel
theorem dX4_weight_41 : decode cX4_weight 41 = .ok (.fload_n 3, 1) := by decide +kernel
theorem dX4_weight_42 : decode cX4_weight 42 = .ok (.ldc 179, 2) := by decide +kernel
theorem dX4_weight_44 : decode cX4_weight 44 = .ok (.fmul, 1) := by decide +kernel
theorem dX4_weight_45 : decode cX4_weight 45 = .ok (.fstore_n 3, 1) := by decide +kernel
theorem dX4_weight_46 : decode cX4_weight 46 = .ok (.iinc 4 (-1), 3) := by decide +kernel
theorem dX4_weight_49 : decode cX4_weight 49 = .ok (.goto (-13), 3) := by decide +kernel
theorem dX4_weight_52 : decode cX4_weight 52 = .ok (.fload_n 3, 1) := by decide +kernel
theorem dX4_weight_53 : decode cX4_weight 53 = .ok (.freturn, 1) := by decide +kernel
theorem dX4_risk_0 : decode cX4_risk 0 = .ok (.fconst 0, 1) := by decide +kernel
theorem dX4_risk_1 : decode cX4_risk 1 = .ok (.fstore_n 1, 1) := by decide +kernel
theorem dX4_risk_2 : decode cX4_risk 2 = .ok (.iconst 0, 1) := by decide +kernel
theorem dX4_risk_3 : decode cX4_risk 3 = .ok (.istore_n 2, 1) := by decide +kernel
theorem dX4_risk_4 : decode cX4_risk 4 = .ok (.iload_n 2, 1) := by decide +kernel
theorem dX4_risk_5 : decode cX4_risk 5 = .ok (.aload_n 0, 1) := by decide +kernel
theorem dX4_risk_6 : decode cX4_risk 6 = .ok (.invokevirtual 52, 3) := by decide +kernel
theorem dX4_risk_9 : decode cX4_risk 9 = .ok (.if_icmp .ge 45, 3) := by decide +kernel
theorem dX4_risk_12 : decode cX4_risk 12 = .ok (.aload_n 0, 1) := by decide +kernel
theorem dX4_risk_13 : decode cX4_risk 13 = .ok (.iload_n 2, 1) := by decide +kernel
theorem dX4_risk_14 : decode cX4_risk 14 = .ok (.invokevirtual 170, 3) := by decide +kernel
theorem dX4_risk_17 : decode cX4_risk 17 = .ok (.istore_n 3, 1) := by decide +kernel
theorem dX4_risk_18 : decode cX4_risk 18 = .ok (.iload_n 3, 1) := by decide +kernel
theorem dX4_risk_19 : decode cX4_risk 19 = .ok (.bipush (-9), 2) := by decide +kernel
theorem dX4_risk_21 : decode cX4_risk 21 = .ok (.if_icmp .eq 27, 3) := by decide +kernel
theorem dX4_risk_24 : decode cX4_risk 24 = .ok (.fload_n 1, 1) := by decide +kernel
theorem dX4_risk_25 : decode cX4_risk 25 = .ok (.aload_n 0, 1) := by decide +kernel
theorem dX4_risk_26 : decode cX4_risk 26 = .ok (.iload_n 2, 1) := by decide +kernel
theorem dX4_risk_27 : decode cX4_risk 27 = .ok (.iload_n 3, 1) := by decide +kernel
theorem dX4_risk_28 : decode cX4_risk 28 = .ok (.invokevirtual 180, 3) := by decide +kernel
theorem dX4_risk_31 : decode cX4_risk 31 = .ok (.aload_n 0, 1) := by decide +kernel
theorem dX4_risk_32 : decode cX4_risk 32 = .ok (.getfield 7, 3) := by decide +kernel
theorem dX4_risk_35 : decode cX4_risk 35 = .ok (.bipush 92, 2) := by decide +kernel
theorem dX4_risk_37 : decode cX4_risk 37 = .ok (.aload_n 0, 1) := by decide +kernel
theorem dX4_risk_38 : decode cX4_risk 38 = .ok (.iload_n 2, 1) := by decide +kernel
theorem dX4_risk_39 : decode cX4_risk 39 = .ok (.invokevirtual 88, 3) := by decide +kernel
theorem dX4_risk_42 : decode cX4_risk 42 = .ok (.iadd, 1) := by decide +kernel
theorem dX4_risk_43 : decode cX4_risk 43 = .ok (.iaload, 1) := by decide +kernel
theorem dX4_risk_44 : decode cX4_risk 44 = .ok (.i2f, 1) := by decide +kernel
theorem dX4_risk_45 : decode cX4_risk 45 = .ok (.fdiv, 1) := by decide +kernel
theorem dX4_risk_46 : decode cX4_risk 46 = .ok (.fadd, 1) := by decide +kernel
theorem dX4_risk_47 : decode cX4_risk 47 = .ok (.fstore_n 1, 1) := by decide +kernel
theorem dX4_risk_48 : decode cX4_risk 48 = .ok (.iinc 2 1, 3) := by decide +kernel
theorem dX4_risk_51 : decode cX4_risk 51 = .ok (.goto (-47), 3) := by decide +kernel
theorem dX4_risk_54 : decode cX4_risk 54 = .ok (.ldc 184, 2) := by decide +kernel
theorem dX4_risk_56 : decode cX4_risk 56 = .ok (.fload_n 1, 1) := by decide +kernel
theorem dX4_risk_57 : decode cX4_risk 57 = .ok (.fmul, 1) := by decide +kernel
theorem dX4_risk_58 : decode cX4_risk 58 = .ok (.f2i, 1) := by decide +kernel
theorem dX4_risk_59 : decode cX4_risk 59 = .ok (.ireturn, 1) := by decide +kernel
theorem dX4_period_0 : decode cX4_period 0 = .ok (.iload_n 1, 1) := by decide +kernel
theorem dX4_period_1 : decode cX4_period 1 = .ok (.iconst 0, 1) := by decide +kernel
theorem dX4_period_2 : decode cX4_period 2 = .ok (.iconst 2, 1) := by decide +kernel
theorem dX4_period_3 : decode cX4_period 3 = .ok (.invokestatic 56, 3) := by decide +kernel
theorem dX4_period_6 : decode cX4_period 6 = .ok (.ifCond .eq 15, 3) := by decide +kernel
theorem dX4_period_9 : decode cX4_period 9 = .ok (.aload_n 0, 1) := by decide +kernel
theorem dX4_period_10 : decode cX4_period 10 = .ok (.getfield 7, 3) := by decide +kernel
theorem dX4_period_13 : decode cX4_period 13 = .ok (.bipush 92, 2) := by decide +kernel
theorem dX4_period_15 : decode cX4_period 15 = .ok (.iload_n 1, 1) := by decide +kernel
theorem dX4_period_16 : decode cX4_period 16 = .ok (.iadd, 1) := by decide +kernel
theorem dX4_period_17 : decode cX4_period 17 = .ok (.iaload, 1) := by decide +kernel
theorem dX4_period_18 : decode cX4_period 18 = .ok (.goto 4, 3) := by decide +kernel
theorem dX4_period_21 : decode cX4_period 21 = .ok (.iconst (-1), 1) := by decide +kernel
theorem dX4_period_22 : decode cX4_period 22 = .ok (.ireturn, 1) := by decide +kernel
theorem dX4_wish_0 : decode cX4_wish 0 = .ok (.aload_n 0, 1) := by decide +kernel
theorem dX4_wish_1 : decode cX4_wish 1 = .ok (.iload_n 1, 1) := by decide +kernel
theorem dX4_wish_2 : decode cX4_wish 2 = .ok (.invokevirtual 161, 3) := by decide +kernel
theorem dX4_wish_5 : decode cX4_wish 5 = .ok (.ifCond .eq 15, 3) := by decide +kernel
theorem dX4_wish_8 : decode cX4_wish 8 = .ok (.aload_n 0, 1) := by decide +kernel
theorem dX4_wish_9 : decode cX4_wish 9 = .ok (.getfield 16, 3) := by decide +kernel
theorem dX4_wish_12 : decode cX4_wish 12 = .ok (.bipush 20, 2) := by decide +kernel
theorem dX4_wish_14 : decode cX4_wish 14 = .ok (.iload_n 1, 1) := by decide +kernel
theorem dX4_wish_15 : decode cX4_wish 15 = .ok (.iadd, 1) := by decide +kernel
theorem dX4_wish_16 : decode cX4_wish 16 = .ok (.iaload, 1) := by decide +kernel
theorem dX4_wish_17 : decode cX4_wish 17 = .ok (.goto 4, 3) := by decide +kernel
theorem dX4_wish_20 : decode cX4_wish 20 = .ok (.iconst (-1), 1) := by decide +kernel
theorem dX4_wish_21 : decode cX4_wish 21 = .ok (.ireturn, 1) := by decide +kernel
theorem dX4_when_0 : decode cX4_when 0 = .ok (.aload_n 0, 1) := by decide +kernel
theorem dX4_when_1 : decode cX4_when 1 = .ok (.iload_n 1, 1) := by decide +kernel
theorem dX4_when_2 : decode cX4_when 2 = .ok (.invokevirtual 60, 3) := by decide +kernel
theorem dX4_when_5 : decode cX4_when 5 = .ok (.ifCond .eq 12, 3) := by decide +kernel
theorem dX4_when_8 : decode cX4_when 8 = .ok (.iload_n 2, 1) := by decide +kernel
theorem dX4_when_9 : decode cX4_when 9 = .ok (.iconst 0, 1) := by decide +kernel
theorem dX4_when_10 : decode cX4_when 10 = .ok (.iconst 2, 1) := by decide +kernel
theorem dX4_when_11 : decode cX4_when 11 = .ok (.invokestatic 56, 3) := by decide +kernel
theorem dX4_when_14 : decode cX4_when 14 = .ok (.ifCond .ne 5, 3) := by decide +kernel
theorem dX4_when_17 : decode cX4_when 17 = .ok (.iconst (-1), 1) := by decide +kernel
theorem dX4_when_18 : decode cX4_when 18 = .ok (.ireturn, 1) := by decide +kernel
theorem dX4_when_19 : decode cX4_when 19 = .ok (.iconst 0, 1) := by decide +kernel
theorem dX4_when_20 : decode cX4_when 20 = .ok (.istore_n 3, 1) := by decide +kernel
theorem dX4_when_21 : decode cX4_when 21 = .ok (.iload_n 3, 1) := by decide +kernel
theorem dX4_when_22 : decode cX4_when 22 = .ok (.bipush 36, 2) := by decide +kernel
theorem dX4_when_24 : decode cX4_when 24 = .ok (.if_icmp .ge 21, 3) := by decide +kernel
theorem dX4_when_27 : decode cX4_when 27 = .ok (.aload_n 0, 1) := by decide +kernel
theorem dX4_when_28 : decode cX4_when 28 = .ok (.getfield 19, 3) := by decide +kernel
theorem dX4_when_31 : decode cX4_when 31 = .ok (.iload_n 3, 1) := by decide +kernel
theorem dX4_when_32 : decode cX4_when 32 = .ok (.aload_n 0, 1) := by decide +kernel
theorem dX4_when_33 : decode cX4_when 33 = .ok (.getfield 16, 3) := by decide +kernel
theorem dX4_when_36 : decode cX4_when 36 = .ok (.iload_n 3, 1) := by decide +kernel
theorem dX4_when_37 : decode cX4_when 37 = .ok (.iaload, 1) := by decide +kernel
theorem dX4_when_38 : decode cX4_when 38 = .ok (.iastore, 1) := by decide +kernel
theorem dX4_when_39 : decode cX4_when 39 = .ok (.iinc 3 1, 3) := by decide +kernel
theorem dX4_when_42 : decode cX4_when 42 = .ok (.goto (-21), 3) := by decide +kernel
theorem dX4_when_45 : decode cX4_when 45 = .ok (.iconst 0, 1) := by decide +kernel
theorem dX4_when_46 : decode cX4_when 46 = .ok (.istore_n 3, 1) := by decide +kernel
theorem dX4_when_47 : decode cX4_when 47 = .ok (.iload_n 3, 1) := by decide +kernel
theorem dX4_when_48 : decode cX4_when 48 = .ok (.bipush 99, 2) := by decide +kernel
theorem dX4_when_50 : decode cX4_when 50 = .ok (.if_icmp .gt 37, 3) := by decide +kernel
theorem dX4_when_53 : decode cX4_when 53 = .ok (.aload_n 0, 1) := by decide +kernel
theorem dX4_when_54 : decode cX4_when 54 = .ok (.aload_n 0, 1) := by decide +kernel
theorem dX4_when_55 : decode cX4_when 55 = .ok (.getfield 19, 3) := by decide +kernel
theorem dX4_when_58 : decode cX4_when 58 = .ok (.invokevirtual 149, 3) := by decide +kernel
theorem dX4_when_61 : decode cX4_when 61 = .ok (.aload_n 0, 1) := by decide +kernel
theorem dX4_when_62 : decode cX4_when 62 = .ok (.getfield 35, 3) := by decide +kernel
theorem dX4_when_65 : decode cX4_when 65 = .ok (.iload_n 1, 1) := by decide +kernel
theorem dX4_when_66 : decode cX4_when 66 = .ok (.iaload, 1) := by decide +kernel
theorem dX4_when_67 : decode cX4_when 67 = .ok (.iload_n 2, 1) := by decide +kernel
theorem dX4_when_68 : decode cX4_when 68 = .ok (.if_icmp .ne 5, 3) := by decide +kernel
theorem dX4_when_71 : decode cX4_when 71 = .ok (.iload_n 3, 1) := by decide +kernel
theorem dX4_when_72 : decode cX4_when 72 = .ok (.ireturn, 1) := by decide +kernel
theorem dX4_when_73 : decode cX4_when 73 = .ok (.aload_n 0, 1) := by decide +kernel
theorem dX4_when_74 : decode cX4_when 74 = .ok (.aload_n 0, 1) := by decide +kernel
theorem dX4_when_75 : decode cX4_when 75 = .ok (.getfield 19, 3) := by decide +kernel
theorem dX4_when_78 : decode cX4_when 78 = .ok (.invokevirtual 164, 3) := by decide +kernel
theorem dX4_when_81 : decode cX4_when 81 = .ok (.iinc 3 1, 3) := by decide +kernel
theorem dX4_when_84 : decode cX4_when 84 = .ok (.goto (-37), 3) := by decide +kernel
theorem dX4_when_87 : decode cX4_when 87 = .ok (.bipush (-9), 2) := by decide +kernel
theorem dX4_when_89 : decode cX4_when 89 = .ok (.ireturn, 1) := by decide +kernel
theorem dX4_keep_0 : decode cX4_keep 0 = .ok (.iload_n 1, 1) := by decide +kernel
theorem dX4_keep_1 : decode cX4_keep 1 = .ok (.iconst 0, 1) := by decide +kernel
theorem dX4_keep_2 : decode cX4_keep 2 = .ok (.iconst 1, 1) := by decide +kernel
theorem dX4_keep_3 : decode cX4_keep 3 = .ok (.invokestatic 56, 3) := by decide +kernel
theorem dX4_keep_6 : decode cX4_keep 6 = .ok (.ifCond .ne 5, 3) := by decide +kernel
theorem dX4_keep_9 : decode cX4_keep 9 = .ok (.iconst (-1), 1) := by decide +kernel
theorem dX4_keep_10 : decode cX4_keep 10 = .ok (.ireturn, 1) := by decide +kernel
theorem dX4_keep_11 : decode cX4_keep 11 = .ok (.iconst 0, 1) := by decide +kernel
theorem dX4_keep_12 : decode cX4_keep 12 = .ok (.istore_n 2, 1) := by decide +kernel
theorem dX4_keep_13 : decode cX4_keep 13 = .ok (.iload_n 2, 1) := by decide +kernel
theorem dX4_keep_14 : decode cX4_keep 14 = .ok (.bipush 36, 2) := by decide +kernel
theorem dX4_keep_16 : decode cX4_keep 16 = .ok (.if_icmp .ge 26, 3) := by decide +kernel
theorem dX4_keep_19 : decode cX4_keep 19 = .ok (.aload_n 0, 1) := by decide +kernel
theorem dX4_keep_20 : decode cX4_keep 20 = .ok (.getfield 25, 3) := by decide +kernel
theorem dX4_keep_23 : decode cX4_keep 23 = .ok (.bipush 36, 2) := by decide +kernel
theorem dX4_keep_25 : decode cX4_keep 25 = .ok (.iload_n 1, 1) := by decide +kernel
theorem dX4_keep_26 : decode cX4_keep 26 = .ok (.imul, 1) := by decide +kernel
theorem dX4_keep_27 : decode cX4_keep 27 = .ok (.iload_n 2, 1) := by decide +kernel
theorem dX4_keep_28 : decode cX4_keep 28 = .ok (.iadd, 1) := by decide +kernel
theorem dX4_keep_29 : decode cX4_keep 29 = .ok (.aload_n 0, 1) := by decide +kernel
theorem dX4_keep_30 : decode cX4_keep 30 = .ok (.getfield 16, 3) := by decide +kernel
theorem dX4_keep_33 : decode cX4_keep 33 = .ok (.iload_n 2, 1) := by decide +kernel
theorem dX4_keep_34 : decode cX4_keep 34 = .ok (.iaload, 1) := by decide +kernel
theorem dX4_keep_35 : decode cX4_keep 35 = .ok (.iastore, 1) := by decide +kernel
theorem dX4_keep_36 : decode cX4_keep 36 = .ok (.iinc 2 1, 3) := by decide +kernel
theorem dX4_keep_39 : decode cX4_keep 39 = .ok (.goto (-26), 3) := by decide +kernel
theorem dX4_keep_42 : decode cX4_keep 42 = .ok (.aload_n 0, 1) := by decide +kernel
theorem dX4_keep_43 : decode cX4_keep 43 = .ok (.getfield 28, 3) := by decide +kernel
theorem dX4_keep_46 : decode cX4_keep 46 = .ok (.iload_n 1, 1) := by decide +kernel
theorem dX4_keep_47 : decode cX4_keep 47 = .ok (.iconst 1, 1) := by decide +kernel
theorem dX4_keep_48 : decode cX4_keep 48 = .ok (.bastore, 1) := by decide +kernel
theorem dX4_keep_49 : decode cX4_keep 49 = .ok (.aload_n 0, 1) := by decide +kernel
theorem dX4_keep_50 : decode cX4_keep 50 = .ok (.getfield 16, 3) := by decide +kernel
theorem dX4_keep_53 : decode cX4_keep 53 = .ok (.iconst 1, 1) := by decide +kernel
theorem dX4_keep_54 : decode cX4_keep 54 = .ok (.iaload, 1) := by decide +kernel
theorem dX4_keep_55 : decode cX4_keep 55 = .ok (.ireturn, 1) := by decide +kernel
theorem dX4_back_0 : decode cX4_back 0 = .ok (.iload_n 1, 1) := by decide +kernel
theorem dX4_back_1 : decode cX4_back 1 = .ok (.iconst 0, 1) := by decide +kernel
theorem dX4_back_2 : decode cX4_back 2 = .ok (.iconst 1, 1) := by decide +kernel
theorem dX4_back_3 : decode cX4_back 3 = .ok (.invokestatic 56, 3) := by decide +kernel
theorem dX4_back_6 : decode cX4_back 6 = .ok (.ifCond .ne 5, 3) := by decide +kernel
theorem dX4_back_9 : decode cX4_back 9 = .ok (.iconst (-1), 1) := by decide +kernel
theorem dX4_back_10 : decode cX4_back 10 = .ok (.ireturn, 1) := by decide +kernel
theorem dX4_back_11 : decode cX4_back 11 = .ok (.aload_n 0, 1) := by decide +kernel
theorem dX4_back_12 : decode cX4_back 12 = .ok (.getfield 28, 3) := by decide +kernel
theorem dX4_back_15 : decode cX4_back 15 = .ok (.iload_n 1, 1) := by decide +kernel
theorem dX4_back_16 : decode cX4_back 16 = .ok (.baload, 1) := by decide +kernel
theorem dX4_back_17 : decode cX4_back 17 = .ok (.ifCond .ne 6, 3) := by decide +kernel
theorem dX4_back_20 : decode cX4_back 20 = .ok (.bipush (-2), 2) := by decide +kernel
theorem dX4_back_22 : decode cX4_back 22 = .ok (.ireturn, 1) := by decide +kernel
theorem dX4_back_23 : decode cX4_back 23 = .ok (.iconst 0, 1) := by decide +kernel
theorem dX4_back_24 : decode cX4_back 24 = .ok (.istore_n 2, 1) := by decide +kernel
theorem dX4_back_25 : decode cX4_back 25 = .ok (.iload_n 2, 1) := by decide +kernel
theorem dX4_back_26 : decode cX4_back 26 = .ok (.bipush 36, 2) := by decide +kernel
theorem dX4_back_28 : decode cX4_back 28 = .ok (.if_icmp .ge 26, 3) := by decide +kernel
theorem dX4_back_31 : decode cX4_back 31 = .ok (.aload_n 0, 1) := by decide +kernel
theorem dX4_back_32 : decode cX4_back 32 = .ok (.getfield 16, 3) := by decide +kernel
theorem dX4_back_35 : decode cX4_back 35 = .ok (.iload_n 2, 1) := by decide +kernel
theorem dX4_back_36 : decode cX4_back 36 = .ok (.aload_n 0, 1) := by decide +kernel
theorem dX4_back_37 : decode cX4_back 37 = .ok (.getfield 25, 3) := by decide +kernel
theorem dX4_back_40 : decode cX4_back 40 = .ok (.bipush 36, 2) := by decide +kernel
theorem dX4_back_42 : decode cX4_back 42 = .ok (.iload_n 1, 1) := by decide +kernel
theorem dX4_back_43 : decode cX4_back 43 = .ok (.imul, 1) := by decide +kernel
theorem dX4_back_44 : decode cX4_back 44 = .ok (.iload_n 2, 1) := by decide +kernel
theorem dX4_back_45 : decode cX4_back 45 = .ok (.iadd, 1) := by decide +kernel
theorem dX4_back_46 : decode cX4_back 46 = .ok (.iaload, 1) := by decide +kernel
theorem dX4_back_47 : decode cX4_back 47 = .ok (.iastore, 1) := by decide +kernel
theorem dX4_back_48 : decode cX4_back 48 = .ok (.iinc 2 1, 3) := by decide +kernel
theorem dX4_back_51 : decode cX4_back 51 = .ok (.goto (-26), 3) := by decide +kernel
theorem dX4_back_54 : decode cX4_back 54 = .ok (.aload_n 0, 1) := by decide +kernel
theorem dX4_back_55 : decode cX4_back 55 = .ok (.iconst 0, 1) := by decide +kernel
theorem dX4_back_56 : decode cX4_back 56 = .ok (.putfield 48, 3) := by decide +kernel
theorem dX4_back_59 : decode cX4_back 59 = .ok (.aload_n 0, 1) := by decide +kernel
theorem dX4_back_60 : decode cX4_back 60 = .ok (.getfield 16, 3) := by decide +kernel
theorem dX4_back_63 : decode cX4_back 63 = .ok (.iconst 1, 1) := by decide +kernel
theorem dX4_back_64 : decode cX4_back 64 = .ok (.iaload, 1) := by decide +kernel
theorem dX4_back_65 : decode cX4_back 65 = .ok (.ireturn, 1) := by decide +kernel
theorem dX4_count_0 : decode cX4_count 0 = .ok (.iload_n 1, 1) := by decide +kernel
theorem dX4_count_1 : decode cX4_count 1 = .ok (.tableswitch 79 0 7 #[47, 52, 60, 60, 60, 60, 69, 74], 47) := by decide +kernel
theorem dX4_count_48 : decode cX4_count 48 = .ok (.aload_n 0, 1) := by decide +kernel
theorem dX4_count_49 : decode cX4_count 49 = .ok (.invokevirtual 52, 3) := by decide +kernel
theorem dX4_count_52 : decode cX4_count 52 = .ok (.ireturn, 1) := by decide +kernel
theorem dX4_count_53 : decode cX4_count 53 = .ok (.aload_n 0, 1) := by decide +kernel
theorem dX4_count_54 : decode cX4_count 54 = .ok (.getfield 7, 3) := by decide +kernel
theorem dX4_count_57 : decode cX4_count 57 = .ok (.bipush 96, 2) := by decide +kernel
theorem dX4_count_59 : decode cX4_count 59 = .ok (.iaload, 1) := by decide +kernel
theorem dX4_count_60 : decode cX4_count 60 = .ok (.ireturn, 1) := by decide +kernel
theorem dX4_count_61 : decode cX4_count 61 = .ok (.aload_n 0, 1) := by decide +kernel
theorem dX4_count_62 : decode cX4_count 62 = .ok (.getfield 16, 3) := by decide +kernel
theorem dX4_count_65 : decode cX4_count 65 = .ok (.iload_n 1, 1) := by decide +kernel
theorem dX4_count_66 : decode cX4_count 66 = .ok (.iconst 2, 1) := by decide +kernel
theorem dX4_count_67 : decode cX4_count 67 = .ok (.isub, 1) := by decide +kernel
theorem dX4_count_68 : decode cX4_count 68 = .ok (.iaload, 1) := by decide +kernel
theorem dX4_count_69 : decode cX4_count 69 = .ok (.ireturn, 1) := by decide +kernel
theorem dX4_count_70 : decode cX4_count 70 = .ok (.aload_n 0, 1) := by decide +kernel
theorem dX4_count_71 : decode cX4_count 71 = .ok (.getfield 185, 3) := by decide +kernel
theorem dX4_count_74 : decode cX4_count 74 = .ok (.ireturn, 1) := by decide +kernel
theorem dX4_count_75 : decode cX4_count 75 = .ok (.aload_n 0, 1) := by decide +kernel
theorem dX4_count_76 : decode cX4_count 76 = .ok (.getfield 48, 3) := by decide +kernel
theorem dX4_count_79 : decode cX4_count 79 = .ok (.ireturn, 1) := by decide +kernel
theorem dX4_count_80 : decode cX4_count 80 = .ok (.iconst (-1), 1) := by decide +kernel
theorem dX4_count_81 : decode cX4_count 81 = .ok (.ireturn, 1) := by decide +kernel
theorem dX4_type_0 : decode cX4_type 0 = .ok (.iload_n 1, 1) := by decide +kernel
theorem dX4_type_1 : decode cX4_type 1 = .ok (.iconst 0, 1) := by decide +kernel
theorem dX4_type_2 : decode cX4_type 2 = .ok (.sipush 255, 3) := by decide +kernel
theorem dX4_type_5 : decode cX4_type 5 = .ok (.invokestatic 56, 3) := by decide +kernel
theorem dX4_type_8 : decode cX4_type 8 = .ok (.ifCond .ne 5, 3) := by decide +kernel
theorem dX4_type_11 : decode cX4_type 11 = .ok (.iconst (-1), 1) := by decide +kernel
theorem dX4_type_12 : decode cX4_type 12 = .ok (.ireturn, 1) := by decide +kernel
theorem dX4_type_13 : decode cX4_type 13 = .ok (.aload_n 0, 1) := by decide +kernel
theorem dX4_type_14 : decode cX4_type 14 = .ok (.getfield 185, 3) := by decide +kernel
theorem dX4_type_17 : decode cX4_type 17 = .ok (.sipush 160, 3) := by decide +kernel
theorem dX4_type_20 : decode cX4_type 20 = .ok (.if_icmp .ne 6, 3) := by decide +kernel
theorem dX4_type_23 : decode cX4_type 23 = .ok (.bipush (-3), 2) := by decide +kernel
theorem dX4_type_25 : decode cX4_type 25 = .ok (.ireturn, 1) := by decide +kernel
theorem dX4_type_26 : decode cX4_type 26 = .ok (.aload_n 0, 1) := by decide +kernel
theorem dX4_type_27 : decode cX4_type 27 = .ok (.getfield 38, 3) := by decide +kernel
theorem dX4_type_30 : decode cX4_type 30 = .ok (.aload_n 0, 1) := by decide +kernel
theorem dX4_type_31 : decode cX4_type 31 = .ok (.getfield 185, 3) := by decide +kernel
theorem dX4_type_34 : decode cX4_type 34 = .ok (.iload_n 1, 1) := by decide +kernel
theorem dX4_type_35 : decode cX4_type 35 = .ok (.iastore, 1) := by decide +kernel
theorem dX4_type_36 : decode cX4_type 36 = .ok (.aload_n 0, 1) := by decide +kernel
theorem dX4_type_37 : decode cX4_type 37 = .ok (.dup, 1) := by decide +kernel
theorem dX4_type_38 : decode cX4_type 38 = .ok (.getfield 185, 3) := by decide +kernel
theorem dX4_type_41 : decode cX4_type 41 = .ok (.iconst 1, 1) := by decide +kernel
theorem dX4_type_42 : decode cX4_type 42 = .ok (.iadd, 1) := by decide +kernel
theorem dX4_type_43 : decode cX4_type 43 = .ok (.putfield 185, 3) := by decide +kernel
theorem dX4_type_46 : decode cX4_type 46 = .ok (.aload_n 0, 1) := by decide +kernel
theorem dX4_type_47 : decode cX4_type 47 = .ok (.getfield 185, 3) := by decide +kernel
theorem dX4_type_50 : decode cX4_type 50 = .ok (.ireturn, 1) := by decide +kernel
theorem dX4_clear_0 : decode cX4_clear 0 = .ok (.aload_n 0, 1) := by decide +kernel
theorem dX4_clear_1 : decode cX4_clear 1 = .ok (.getfield 185, 3) := by decide +kernel
theorem dX4_clear_4 : decode cX4_clear 4 = .ok (.istore_n 1, 1) := by decide +kernel
theorem dX4_clear_5 : decode cX4_clear 5 = .ok (.aload_n 0, 1) := by decide +kernel
theorem dX4_clear_6 : decode cX4_clear 6 = .ok (.iconst 0, 1) := by decide +kernel
theorem dX4_clear_7 : decode cX4_clear 7 = .ok (.putfield 185, 3) := by decide +kernel
theorem dX4_clear_10 : decode cX4_clear 10 = .ok (.iload_n 1, 1) := by decide +kernel
theorem dX4_clear_11 : decode cX4_clear 11 = .ok (.ireturn, 1) := by decide +kernel
theorem dX4_isItem_0 : decode cX4_isItem 0 = .ok (.iload_n 0, 1) := by decide +kernel
theorem dX4_isItem_1 : decode cX4_isItem 1 = .ok (.bipush 105, 2) := by decide +kernel
theorem dX4_isItem_3 : decode cX4_isItem 3 = .ok (.if_icmp .eq 51, 3) := by decide +kernel
theorem dX4_isItem_6 : decode cX4_isItem 6 = .ok (.iload_n 0, 1) := by decide +kernel
theorem dX4_isItem_7 : decode cX4_isItem 7 = .ok (.bipush 114, 2) := by decide +kernel
theorem dX4_isItem_9 : decode cX4_isItem 9 = .ok (.if_icmp .eq 45, 3) := by decide +kernel
theorem dX4_isItem_12 : decode cX4_isItem 12 = .ok (.iload_n 0, 1) := by decide +kernel
theorem dX4_isItem_13 : decode cX4_isItem 13 = .ok (.bipush 97, 2) := by decide +kernel
theorem dX4_isItem_15 : decode cX4_isItem 15 = .ok (.if_icmp .eq 39, 3) := by decide +kernel
theorem dX4_isItem_18 : decode cX4_isItem 18 = .ok (.iload_n 0, 1) := by decide +kernel
theorem dX4_isItem_19 : decode cX4_isItem 19 = .ok (.bipush 111, 2) := by decide +kernel
theorem dX4_isItem_21 : decode cX4_isItem 21 = .ok (.if_icmp .eq 33, 3) := by decide +kernel
theorem dX4_isItem_24 : decode cX4_isItem 24 = .ok (.iload_n 0, 1) := by decide +kernel
theorem dX4_isItem_25 : decode cX4_isItem 25 = .ok (.bipush 120, 2) := by decide +kernel
theorem dX4_isItem_27 : decode cX4_isItem 27 = .ok (.if_icmp .eq 27, 3) := by decide +kernel
theorem dX4_isItem_30 : decode cX4_isItem 30 = .ok (.iload_n 0, 1) := by decide +kernel
theorem dX4_isItem_31 : decode cX4_isItem 31 = .ok (.bipush 109, 2) := by decide +kernel
theorem dX4_isItem_33 : decode cX4_isItem 33 = .ok (.if_icmp .eq 21, 3) := by decide +kernel
theorem dX4_isItem_36 : decode cX4_isItem 36 = .ok (.iload_n 0, 1) := by decide +kernel
theorem dX4_isItem_37 : decode cX4_isItem 37 = .ok (.bipush 112, 2) := by decide +kernel
theorem dX4_isItem_39 : decode cX4_isItem 39 = .ok (.if_icmp .eq 15, 3) := by decide +kernel
theorem dX4_isItem_42 : decode cX4_isItem 42 = .ok (.iload_n 0, 1) := by decide +kernel
theorem dX4_isItem_43 : decode cX4_isItem 43 = .ok (.bipush 103, 2) := by decide +kernel
theorem dX4_isItem_45 : decode cX4_isItem 45 = .ok (.if_icmp .eq 9, 3) := by decide +kernel
theorem dX4_isItem_48 : decode cX4_isItem 48 = .ok (.iload_n 0, 1) := by decide +kernel
theorem dX4_isItem_49 : decode cX4_isItem 49 = .ok (.bipush 101, 2) := by decide +kernel
theorem dX4_isItem_51 : decode cX4_isItem 51 = .ok (.if_icmp .ne 7, 3) := by decide +kernel
theorem dX4_isItem_54 : decode cX4_isItem 54 = .ok (.iconst 1, 1) := by decide +kernel
theorem dX4_isItem_55 : decode cX4_isItem 55 = .ok (.goto 4, 3) := by decide +kernel
theorem dX4_isItem_58 : decode cX4_isItem 58 = .ok (.iconst 0, 1) := by decide +kernel
theorem dX4_isItem_59 : decode cX4_isItem 59 = .ok (.ireturn, 1) := by decide +kernel
theorem dX4_next_0 : decode cX4_next 0 = .ok (.aload_n 0, 1) := by decide +kernel
theorem dX4_next_1 : decode cX4_next 1 = .ok (.getfield 188, 3) := by decide +kernel
theorem dX4_next_4 : decode cX4_next 4 = .ok (.aload_n 0, 1) := by decide +kernel
theorem dX4_next_5 : decode cX4_next 5 = .ok (.getfield 185, 3) := by decide +kernel
theorem dX4_next_8 : decode cX4_next 8 = .ok (.if_icmp .ge 30, 3) := by decide +kernel
theorem dX4_next_11 : decode cX4_next 11 = .ok (.aload_n 0, 1) := by decide +kernel
theorem dX4_next_12 : decode cX4_next 12 = .ok (.getfield 38, 3) := by decide +kernel
theorem dX4_next_15 : decode cX4_next 15 = .ok (.aload_n 0, 1) := by decide +kernel
theorem dX4_next_16 : decode cX4_next 16 = .ok (.getfield 188, 3) := by decide +kernel
theorem dX4_next_19 : decode cX4_next 19 = .ok (.iaload, 1) := by decide +kernel
theorem dX4_next_20 : decode cX4_next 20 = .ok (.bipush 32, 2) := by decide +kernel
theorem dX4_next_22 : decode cX4_next 22 = .ok (.if_icmp .ne 16, 3) := by decide +kernel
theorem dX4_next_25 : decode cX4_next 25 = .ok (.aload_n 0, 1) := by decide +kernel
theorem dX4_next_26 : decode cX4_next 26 = .ok (.dup, 1) := by decide +kernel
theorem dX4_next_27 : decode cX4_next 27 = .ok (.getfield 188, 3) := by decide +kernel
theorem dX4_next_30 : decode cX4_next 30 = .ok (.iconst 1, 1) := by decide +kernel
theorem dX4_next_31 : decode cX4_next 31 = .ok (.iadd, 1) := by decide +kernel
theorem dX4_next_32 : decode cX4_next 32 = .ok (.putfield 188, 3) := by decide +kernel
theorem dX4_next_35 : decode cX4_next 35 = .ok (.goto (-35), 3) := by decide +kernel
theorem dX4_next_38 : decode cX4_next 38 = .ok (.aload_n 0, 1) := by decide +kernel
theorem dX4_next_39 : decode cX4_next 39 = .ok (.aload_n 0, 1) := by decide +kernel
theorem dX4_next_40 : decode cX4_next 40 = .ok (.getfield 188, 3) := by decide +kernel
theorem dX4_next_43 : decode cX4_next 43 = .ok (.putfield 191, 3) := by decide +kernel
theorem dX4_next_46 : decode cX4_next 46 = .ok (.aload_n 0, 1) := by decide +kernel
theorem dX4_next_47 : decode cX4_next 47 = .ok (.iconst 0, 1) := by decide +kernel
theorem dX4_next_48 : decode cX4_next 48 = .ok (.putfield 194, 3) := by decide +kernel
theorem dX4_next_51 : decode cX4_next 51 = .ok (.aload_n 0, 1) := by decide +kernel
theorem dX4_next_52 : decode cX4_next 52 = .ok (.getfield 188, 3) := by decide +kernel
theorem dX4_next_55 : decode cX4_next 55 = .ok (.aload_n 0, 1) := by decide +kernel
theorem dX4_next_56 : decode cX4_next 56 = .ok (.getfield 185, 3) := by decide +kernel
theorem dX4_next_59 : decode cX4_next 59 = .ok (.if_icmp .ne 11, 3) := by decide +kernel
theorem dX4_next_62 : decode cX4_next 62 = .ok (.aload_n 0, 1) := by decide +kernel
theorem dX4_next_63 : decode cX4_next 63 = .ok (.iconst 0, 1) := by decide +kernel
theorem dX4_next_64 : decode cX4_next 64 = .ok (.putfield 197, 3) := by decide +kernel
theorem dX4_next_67 : decode cX4_next 67 = .ok (.goto 209, 3) := by decide +kernel
theorem dX4_next_70 : decode cX4_next 70 = .ok (.aload_n 0, 1) := by decide +kernel
theorem dX4_next_71 : decode cX4_next 71 = .ok (.getfield 38, 3) := by decide +kernel
theorem dX4_next_74 : decode cX4_next 74 = .ok (.aload_n 0, 1) := by decide +kernel
theorem dX4_next_75 : decode cX4_next 75 = .ok (.getfield 188, 3) := by decide +kernel
theorem dX4_next_78 : decode cX4_next 78 = .ok (.iaload, 1) := by decide +kernel
theorem dX4_next_79 : decode cX4_next 79 = .ok (.bipush 48, 2) := by decide +kernel
theorem dX4_next_81 : decode cX4_next 81 = .ok (.bipush 57, 2) := by decide +kernel
theorem dX4_next_83 : decode cX4_next 83 = .ok (.invokestatic 56, 3) := by decide +kernel
theorem dX4_next_86 : decode cX4_next 86 = .ok (.ifCond .eq 134, 3) := by decide +kernel
theorem dX4_next_89 : decode cX4_next 89 = .ok (.aload_n 0, 1) := by decide +kernel
theorem dX4_next_90 : decode cX4_next 90 = .ok (.getfield 188, 3) := by decide +kernel
theorem dX4_next_93 : decode cX4_next 93 = .ok (.aload_n 0, 1) := by decide +kernel
theorem dX4_next_94 : decode cX4_next 94 = .ok (.getfield 185, 3) := by decide +kernel
theorem dX4_next_97 : decode cX4_next 97 = .ok (.if_icmp .ge 75, 3) := by decide +kernel
theorem dX4_next_100 : decode cX4_next 100 = .ok (.aload_n 0, 1) := by decide +kernel
theorem dX4_next_101 : decode cX4_next 101 = .ok (.getfield 38, 3) := by decide +kernel
theorem dX4_next_104 : decode cX4_next 104 = .ok (.aload_n 0, 1) := by decide +kernel
theorem dX4_next_105 : decode cX4_next 105 = .ok (.getfield 188, 3) := by decide +kernel
theorem dX4_next_108 : decode cX4_next 108 = .ok (.iaload, 1) := by decide +kernel
theorem dX4_next_109 : decode cX4_next 109 = .ok (.bipush 48, 2) := by decide +kernel
theorem dX4_next_111 : decode cX4_next 111 = .ok (.bipush 57, 2) := by decide +kernel
theorem dX4_next_113 : decode cX4_next 113 = .ok (.invokestatic 56, 3) := by decide +kernel
theorem dX4_next_116 : decode cX4_next 116 = .ok (.ifCond .eq 56, 3) := by decide +kernel
theorem dX4_next_119 : decode cX4_next 119 = .ok (.aload_n 0, 1) := by decide +kernel
theorem dX4_next_120 : decode cX4_next 120 = .ok (.aload_n 0, 1) := by decide +kernel
theorem dX4_next_121 : decode cX4_next 121 = .ok (.getfield 194, 3) := by decide +kernel
theorem dX4_next_124 : decode cX4_next 124 = .ok (.bipush 99, 2) := by decide +kernel
theorem dX4_next_126 : decode cX4_next 126 = .ok (.if_icmp .le 10, 3) := by decide +kernel
theorem dX4_next_129 : decode cX4_next 129 = .ok (.aload_n 0, 1) := by decide +kernel
theorem dX4_next_130 : decode cX4_next 130 = .ok (.getfield 194, 3) := by decide +kernel
theorem dX4_next_133 : decode cX4_next 133 = .ok (.goto 23, 3) := by decide +kernel
theorem dX4_next_136 : decode cX4_next 136 = .ok (.bipush 10, 2) := by decide +kernel
theorem dX4_next_138 : decode cX4_next 138 = .ok (.aload_n 0, 1) := by decide +kernel
theorem dX4_next_139 : decode cX4_next 139 = .ok (.getfield 194, 3) := by decide +kernel
theorem dX4_next_142 : decode cX4_next 142 = .ok (.imul, 1) := by decide +kernel
theorem dX4_next_143 : decode cX4_next 143 = .ok (.aload_n 0, 1) := by decide +kernel
theorem dX4_next_144 : decode cX4_next 144 = .ok (.getfield 38, 3) := by decide +kernel
theorem dX4_next_147 : decode cX4_next 147 = .ok (.aload_n 0, 1) := by decide +kernel
theorem dX4_next_148 : decode cX4_next 148 = .ok (.getfield 188, 3) := by decide +kernel
theorem dX4_next_151 : decode cX4_next 151 = .ok (.iaload, 1) := by decide +kernel
theorem dX4_next_152 : decode cX4_next 152 = .ok (.iadd, 1) := by decide +kernel
theorem dX4_next_153 : decode cX4_next 153 = .ok (.bipush 48, 2) := by decide +kernel
theorem dX4_next_155 : decode cX4_next 155 = .ok (.isub, 1) := by decide +kernel
theorem dX4_next_156 : decode cX4_next 156 = .ok (.putfield 194, 3) := by decide +kernel
theorem dX4_next_159 : decode cX4_next 159 = .ok (.aload_n 0, 1) := by decide +kernel
theorem dX4_next_160 : decode cX4_next 160 = .ok (.dup, 1) := by decide +kernel
theorem dX4_next_161 : decode cX4_next 161 = .ok (.getfield 188, 3) := by decide +kernel
theorem dX4_next_164 : decode cX4_next 164 = .ok (.iconst 1, 1) := by decide +kernel
theorem dX4_next_165 : decode cX4_next 165 = .ok (.iadd, 1) := by decide +kernel
theorem dX4_next_166 : decode cX4_next 166 = .ok (.putfield 188, 3) := by decide +kernel
theorem dX4_next_169 : decode cX4_next 169 = .ok (.goto (-80), 3) := by decide +kernel
theorem dX4_next_172 : decode cX4_next 172 = .ok (.aload_n 0, 1) := by decide +kernel
theorem dX4_next_173 : decode cX4_next 173 = .ok (.aload_n 0, 1) := by decide +kernel
theorem dX4_next_174 : decode cX4_next 174 = .ok (.getfield 194, 3) := by decide +kernel
theorem dX4_next_177 : decode cX4_next 177 = .ok (.bipush 99, 2) := by decide +kernel
theorem dX4_next_179 : decode cX4_next 179 = .ok (.if_icmp .gt 30, 3) := by decide +kernel
theorem dX4_next_182 : decode cX4_next 182 = .ok (.aload_n 0, 1) := by decide +kernel
theorem dX4_next_183 : decode cX4_next 183 = .ok (.getfield 38, 3) := by decide +kernel
theorem dX4_next_186 : decode cX4_next 186 = .ok (.aload_n 0, 1) := by decide +kernel
theorem dX4_next_187 : decode cX4_next 187 = .ok (.getfield 191, 3) := by decide +kernel
theorem dX4_next_190 : decode cX4_next 190 = .ok (.iaload, 1) := by decide +kernel
theorem dX4_next_191 : decode cX4_next 191 = .ok (.bipush 48, 2) := by decide +kernel
theorem dX4_next_193 : decode cX4_next 193 = .ok (.if_icmp .ne 20, 3) := by decide +kernel
theorem dX4_next_196 : decode cX4_next 196 = .ok (.aload_n 0, 1) := by decide +kernel
theorem dX4_next_197 : decode cX4_next 197 = .ok (.getfield 188, 3) := by decide +kernel
theorem dX4_next_200 : decode cX4_next 200 = .ok (.aload_n 0, 1) := by decide +kernel
theorem dX4_next_201 : decode cX4_next 201 = .ok (.getfield 191, 3) := by decide +kernel
theorem dX4_next_204 : decode cX4_next 204 = .ok (.isub, 1) := by decide +kernel
theorem dX4_next_205 : decode cX4_next 205 = .ok (.iconst 1, 1) := by decide +kernel
theorem dX4_next_206 : decode cX4_next 206 = .ok (.if_icmp .le 7, 3) := by decide +kernel
theorem dX4_next_209 : decode cX4_next 209 = .ok (.iconst 2, 1) := by decide +kernel
theorem dX4_next_210 : decode cX4_next 210 = .ok (.goto 4, 3) := by decide +kernel
theorem dX4_next_213 : decode cX4_next 213 = .ok (.iconst 1, 1) := by decide +kernel
theorem dX4_next_214 : decode cX4_next 214 = .ok (.putfield 197, 3) := by decide +kernel
theorem dX4_next_217 : decode cX4_next 217 = .ok (.goto 59, 3) := by decide +kernel
theorem dX4_next_220 : decode cX4_next 220 = .ok (.aload_n 0, 1) := by decide +kernel
theorem dX4_next_221 : decode cX4_next 221 = .ok (.aload_n 0, 1) := by decide +kernel
theorem dX4_next_222 : decode cX4_next 222 = .ok (.getfield 38, 3) := by decide +kernel
theorem dX4_next_225 : decode cX4_next 225 = .ok (.aload_n 0, 1) := by decide +kernel
theorem dX4_next_226 : decode cX4_next 226 = .ok (.getfield 188, 3) := by decide +kernel
theorem dX4_next_229 : decode cX4_next 229 = .ok (.iaload, 1) := by decide +kernel
theorem dX4_next_230 : decode cX4_next 230 = .ok (.invokestatic 200, 3) := by decide +kernel
theorem dX4_next_233 : decode cX4_next 233 = .ok (.ifCond .ne 17, 3) := by decide +kernel
theorem dX4_next_236 : decode cX4_next 236 = .ok (.aload_n 0, 1) := by decide +kernel
theorem dX4_next_237 : decode cX4_next 237 = .ok (.getfield 38, 3) := by decide +kernel
theorem dX4_next_240 : decode cX4_next 240 = .ok (.aload_n 0, 1) := by decide +kernel
theorem dX4_next_241 : decode cX4_next 241 = .ok (.getfield 188, 3) := by decide +kernel
theorem dX4_next_244 : decode cX4_next 244 = .ok (.iaload, 1) := by decide +kernel
theorem dX4_next_245 : decode cX4_next 245 = .ok (.bipush 59, 2) := by decide +kernel
theorem dX4_next_247 : decode cX4_next 247 = .ok (.if_icmp .ne 15, 3) := by decide +kernel
theorem dX4_next_250 : decode cX4_next 250 = .ok (.aload_n 0, 1) := by decide +kernel
theorem dX4_next_251 : decode cX4_next 251 = .ok (.getfield 38, 3) := by decide +kernel
theorem dX4_next_254 : decode cX4_next 254 = .ok (.aload_n 0, 1) := by decide +kernel
theorem dX4_next_255 : decode cX4_next 255 = .ok (.getfield 188, 3) := by decide +kernel
theorem dX4_next_258 : decode cX4_next 258 = .ok (.iaload, 1) := by decide +kernel
theorem dX4_next_259 : decode cX4_next 259 = .ok (.goto 4, 3) := by decide +kernel
theorem dX4_next_262 : decode cX4_next 262 = .ok (.iconst 2, 1) := by decide +kernel
theorem dX4_next_263 : decode cX4_next 263 = .ok (.putfield 197, 3) := by decide +kernel
theorem dX4_next_266 : decode cX4_next 266 = .ok (.aload_n 0, 1) := by decide +kernel
theorem dX4_next_267 : decode cX4_next 267 = .ok (.dup, 1) := by decide +kernel
theorem dX4_next_268 : decode cX4_next 268 = .ok (.getfield 188, 3) := by decide +kernel
theorem dX4_next_271 : decode cX4_next 271 = .ok (.iconst 1, 1) := by decide +kernel
theorem dX4_next_272 : decode cX4_next 272 = .ok (.iadd, 1) := by decide +kernel
theorem dX4_next_273 : decode cX4_next 273 = .ok (.putfield 188, 3) := by decide +kernel
theorem dX4_next_276 : decode cX4_next 276 = .ok (.return_, 1) := by decide +kernel
theorem dX4_must_0 : decode cX4_must 0 = .ok (.aload_n 0, 1) := by decide +kernel
theorem dX4_must_1 : decode cX4_must 1 = .ok (.getfield 194, 3) := by decide +kernel
theorem dX4_must_4 : decode cX4_must 4 = .ok (.istore_n 2, 1) := by decide +kernel
theorem dX4_must_5 : decode cX4_must 5 = .ok (.aload_n 0, 1) := by decide +kernel
theorem dX4_must_6 : decode cX4_must 6 = .ok (.getfield 203, 3) := by decide +kernel
theorem dX4_must_9 : decode cX4_must 9 = .ok (.bipush (-9), 2) := by decide +kernel
theorem dX4_must_11 : decode cX4_must 11 = .ok (.if_icmp .ne 22, 3) := by decide +kernel
theorem dX4_must_14 : decode cX4_must 14 = .ok (.iload_n 1, 1) := by decide +kernel
theorem dX4_must_15 : decode cX4_must 15 = .ok (.ifCond .eq 10, 3) := by decide +kernel
theorem dX4_must_18 : decode cX4_must 18 = .ok (.aload_n 0, 1) := by decide +kernel
theorem dX4_must_19 : decode cX4_must 19 = .ok (.invokevirtual 206, 3) := by decide +kernel
theorem dX4_must_22 : decode cX4_must 22 = .ok (.goto 11, 3) := by decide +kernel
theorem dX4_must_25 : decode cX4_must 25 = .ok (.aload_n 0, 1) := by decide +kernel
theorem dX4_must_26 : decode cX4_must 26 = .ok (.aload_n 0, 1) := by decide +kernel
theorem dX4_must_27 : decode cX4_must 27 = .ok (.getfield 191, 3) := by decide +kernel
theorem dX4_must_30 : decode cX4_must 30 = .ok (.putfield 203, 3) := by decide +kernel
theorem dX4_must_33 : decode cX4_must 33 = .ok (.iload_n 2, 1) := by decide +kernel
theorem dX4_must_34 : decode cX4_must 34 = .ok (.ireturn, 1) := by decide +kernel
theorem dX4_number_0 : decode cX4_number 0 = .ok (.aload_n 0, 1) := by decide +kernel
theorem dX4_number_1 : decode cX4_number 1 = .ok (.aload_n 0, 1) := by decide +kernel
theorem dX4_number_2 : decode cX4_number 2 = .ok (.getfield 197, 3) := by decide +kernel
theorem dX4_number_5 : decode cX4_number 5 = .ok (.iconst 1, 1) := by decide +kernel
theorem dX4_number_6 : decode cX4_number 6 = .ok (.if_icmp .ne 19, 3) := by decide +kernel
theorem dX4_number_9 : decode cX4_number 9 = .ok (.aload_n 0, 1) := by decide +kernel
theorem dX4_number_10 : decode cX4_number 10 = .ok (.getfield 194, 3) := by decide +kernel
theorem dX4_number_13 : decode cX4_number 13 = .ok (.iload_n 1, 1) := by decide +kernel
theorem dX4_number_14 : decode cX4_number 14 = .ok (.iload_n 2, 1) := by decide +kernel
theorem dX4_number_15 : decode cX4_number 15 = .ok (.invokestatic 56, 3) := by decide +kernel
theorem dX4_number_18 : decode cX4_number 18 = .ok (.ifCond .eq 7, 3) := by decide +kernel
theorem dX4_number_21 : decode cX4_number 21 = .ok (.iconst 1, 1) := by decide +kernel
theorem dX4_number_22 : decode cX4_number 22 = .ok (.goto 4, 3) := by decide +kernel
theorem dX4_number_25 : decode cX4_number 25 = .ok (.iconst 0, 1) := by decide +kernel
theorem dX4_number_26 : decode cX4_number 26 = .ok (.invokevirtual 209, 3) := by decide +kernel
theorem dX4_number_29 : decode cX4_number 29 = .ok (.ireturn, 1) := by decide +kernel
theorem dX4_sortOf_0 : decode cX4_sortOf 0 = .ok (.iload_n 0, 1) := by decide +kernel
theorem dX4_sortOf_1 : decode cX4_sortOf 1 = .ok (.bipush 105, 2) := by decide +kernel
theorem dX4_sortOf_3 : decode cX4_sortOf 3 = .ok (.if_icmp .ne 7, 3) := by decide +kernel
theorem dX4_sortOf_6 : decode cX4_sortOf 6 = .ok (.iconst 0, 1) := by decide +kernel
theorem dX4_sortOf_7 : decode cX4_sortOf 7 = .ok (.goto 55, 3) := by decide +kernel
theorem dX4_sortOf_10 : decode cX4_sortOf 10 = .ok (.iload_n 0, 1) := by decide +kernel
theorem dX4_sortOf_11 : decode cX4_sortOf 11 = .ok (.bipush 114, 2) := by decide +kernel
theorem dX4_sortOf_13 : decode cX4_sortOf 13 = .ok (.if_icmp .ne 7, 3) := by decide +kernel
theorem dX4_sortOf_16 : decode cX4_sortOf 16 = .ok (.iconst 1, 1) := by decide +kernel
theorem dX4_sortOf_17 : decode cX4_sortOf 17 = .ok (.goto 45, 3) := by decide +kernel
theorem dX4_sortOf_20 : decode cX4_sortOf 20 = .ok (.iload_n 0, 1) := by decide +kernel
theorem dX4_sortOf_21 : decode cX4_sortOf 21 = .ok (.bipush 97, 2) := by decide +kernel
theorem dX4_sortOf_23 : decode cX4_sortOf 23 = .ok (.if_icmp .ne 7, 3) := by decide +kernel
theorem dX4_sortOf_26 : decode cX4_sortOf 26 = .ok (.iconst 2, 1) := by decide +kernel
theorem dX4_sortOf_27 : decode cX4_sortOf 27 = .ok (.goto 35, 3) := by decide +kernel
theorem dX4_sortOf_30 : decode cX4_sortOf 30 = .ok (.iload_n 0, 1) := by decide +kernel
theorem dX4_sortOf_31 : decode cX4_sortOf 31 = .ok (.bipush 111, 2) := by decide +kernel
theorem dX4_sortOf_33 : decode cX4_sortOf 33 = .ok (.if_icmp .ne 7, 3) := by decide +kernel
theorem dX4_sortOf_36 : decode cX4_sortOf 36 = .ok (.iconst 3, 1) := by decide +kernel
theorem dX4_sortOf_37 : decode cX4_sortOf 37 = .ok (.goto 25, 3) := by decide +kernel
theorem dX4_sortOf_40 : decode cX4_sortOf 40 = .ok (.iload_n 0, 1) := by decide +kernel
theorem dX4_sortOf_41 : decode cX4_sortOf 41 = .ok (.bipush 120, 2) := by decide +kernel
theorem dX4_sortOf_43 : decode cX4_sortOf 43 = .ok (.if_icmp .ne 7, 3) := by decide +kernel
theorem dX4_sortOf_46 : decode cX4_sortOf 46 = .ok (.iconst 4, 1) := by decide +kernel
theorem dX4_sortOf_47 : decode cX4_sortOf 47 = .ok (.goto 15, 3) := by decide +kernel
theorem dX4_sortOf_50 : decode cX4_sortOf 50 = .ok (.iload_n 0, 1) := by decide +kernel
theorem dX4_sortOf_51 : decode cX4_sortOf 51 = .ok (.bipush 109, 2) := by decide +kernel
theorem dX4_sortOf_53 : decode cX4_sortOf 53 = .ok (.if_icmp .ne 7, 3) := by decide +kernel
theorem dX4_sortOf_56 : decode cX4_sortOf 56 = .ok (.iconst 5, 1) := by decide +kernel
theorem dX4_sortOf_57 : decode cX4_sortOf 57 = .ok (.goto 5, 3) := by decide +kernel
theorem dX4_sortOf_60 : decode cX4_sortOf 60 = .ok (.bipush (-9), 2) := by decide +kernel
theorem dX4_sortOf_62 : decode cX4_sortOf 62 = .ok (.ireturn, 1) := by decide +kernel
theorem dX4_readNode_0 : decode cX4_readNode 0 = .ok (.aload_n 0, 1) := by decide +kernel
theorem dX4_readNode_1 : decode cX4_readNode 1 = .ok (.getfield 13, 3) := by decide +kernel
theorem dX4_readNode_4 : decode cX4_readNode 4 = .ok (.bipush 95, 2) := by decide +kernel
theorem dX4_readNode_6 : decode cX4_readNode 6 = .ok (.iaload, 1) := by decide +kernel
theorem dX4_readNode_7 : decode cX4_readNode 7 = .ok (.istore_n 2, 1) := by decide +kernel
theorem dX4_readNode_8 : decode cX4_readNode 8 = .ok (.aload_n 0, 1) := by decide +kernel
theorem dX4_readNode_9 : decode cX4_readNode 9 = .ok (.getfield 13, 3) := by decide +kernel
theorem dX4_readNode_12 : decode cX4_readNode 12 = .ok (.iload_n 2, 1) := by decide +kernel
theorem dX4_readNode_13 : decode cX4_readNode 13 = .ok (.iload_n 1, 1) := by decide +kernel
theorem dX4_readNode_14 : decode cX4_readNode 14 = .ok (.iastore, 1) := by decide +kernel
theorem dX4_readNode_15 : decode cX4_readNode 15 = .ok (.iload_n 1, 1) := by decide +kernel
theorem dX4_readNode_16 : decode cX4_readNode 16 = .ok (.iconst 1, 1) := by decide +kernel
theorem dX4_readNode_17 : decode cX4_readNode 17 = .ok (.if_icmp .gt 18, 3) := by decide +kernel
theorem dX4_readNode_20 : decode cX4_readNode 20 = .ok (.aload_n 0, 1) := by decide +kernel
theorem dX4_readNode_21 : decode cX4_readNode 21 = .ok (.getfield 13, 3) := by decide +kernel
theorem dX4_readNode_24 : decode cX4_readNode 24 = .ok (.bipush 16, 2) := by decide +kernel
theorem dX4_readNode_26 : decode cX4_readNode 26 = .ok (.iload_n 2, 1) := by decide +kernel
theorem dX4_readNode_27 : decode cX4_readNode 27 = .ok (.iadd, 1) := by decide +kernel
theorem dX4_readNode_28 : decode cX4_readNode 28 = .ok (.aload_n 0, 1) := by decide +kernel
theorem dX4_readNode_29 : decode cX4_readNode 29 = .ok (.iconst 0, 1) := by decide +kernel
theorem dX4_readNode_30 : decode cX4_readNode 30 = .ok (.iconst 2, 1) := by decide +kernel
theorem dX4_readNode_31 : decode cX4_readNode 31 = .ok (.invokevirtual 213, 3) := by decide +kernel
theorem dX4_readNode_34 : decode cX4_readNode 34 = .ok (.iastore, 1) := by decide +kernel
theorem dX4_readNode_35 : decode cX4_readNode 35 = .ok (.iconst 0, 1) := by decide +kernel
theorem dX4_readNode_36 : decode cX4_readNode 36 = .ok (.istore_n 3, 1) := by decide +kernel
theorem dX4_readNode_37 : decode cX4_readNode 37 = .ok (.iload_n 3, 1) := by decide +kernel
theorem dX4_readNode_38 : decode cX4_readNode 38 = .ok (.iload_n 1, 1) := by decide +kernel
theorem dX4_readNode_39 : decode cX4_readNode 39 = .ok (.invokestatic 68, 3) := by decide +kernel
theorem dX4_readNode_42 : decode cX4_readNode 42 = .ok (.if_icmp .ge 30, 3) := by decide +kernel
theorem dX4_readNode_45 : decode cX4_readNode 45 = .ok (.aload_n 0, 1) := by decide +kernel
theorem dX4_readNode_46 : decode cX4_readNode 46 = .ok (.getfield 13, 3) := by decide +kernel
theorem dX4_readNode_49 : decode cX4_readNode 49 = .ok (.bipush 32, 2) := by decide +kernel
theorem dX4_readNode_51 : decode cX4_readNode 51 = .ok (.iconst 3, 1) := by decide +kernel
theorem dX4_readNode_52 : decode cX4_readNode 52 = .ok (.iload_n 2, 1) := by decide +kernel
theorem dX4_readNode_53 : decode cX4_readNode 53 = .ok (.imul, 1) := by decide +kernel
theorem dX4_readNode_54 : decode cX4_readNode 54 = .ok (.iadd, 1) := by decide +kernel
theorem dX4_readNode_55 : decode cX4_readNode 55 = .ok (.iload_n 3, 1) := by decide +kernel
theorem dX4_readNode_56 : decode cX4_readNode 56 = .ok (.iadd, 1) := by decide +kernel
theorem dX4_readNode_57 : decode cX4_readNode 57 = .ok (.aload_n 0, 1) := by decide +kernel
theorem dX4_readNode_58 : decode cX4_readNode 58 = .ok (.iconst 0, 1) := by decide +kernel
theorem dX4_readNode_59 : decode cX4_readNode 59 = .ok (.iload_n 2, 1) := by decide +kernel
theorem dX4_readNode_60 : decode cX4_readNode 60 = .ok (.iconst 1, 1) := by decide +kernel
theorem dX4_readNode_61 : decode cX4_readNode 61 = .ok (.isub, 1) := by decide +kernel
theorem dX4_readNode_62 : decode cX4_readNode 62 = .ok (.invokevirtual 213, 3) := by decide +kernel
theorem dX4_readNode_65 : decode cX4_readNode 65 = .ok (.iastore, 1) := by decide +kernel
theorem dX4_readNode_66 : decode cX4_readNode 66 = .ok (.iinc 3 1, 3) := by decide +kernel
theorem dX4_readNode_69 : decode cX4_readNode 69 = .ok (.goto (-32), 3) := by decide +kernel
theorem dX4_readNode_72 : decode cX4_readNode 72 = .ok (.aload_n 0, 1) := by decide +kernel
theorem dX4_readNode_73 : decode cX4_readNode 73 = .ok (.getfield 13, 3) := by decide +kernel
theorem dX4_readNode_76 : decode cX4_readNode 76 = .ok (.bipush 95, 2) := by decide +kernel
theorem dX4_readNode_78 : decode cX4_readNode 78 = .ok (.dup2, 1) := by decide +kernel
theorem dX4_readNode_79 : decode cX4_readNode 79 = .ok (.iaload, 1) := by decide +kernel
theorem dX4_readNode_80 : decode cX4_readNode 80 = .ok (.iconst 1, 1) := by decide +kernel
theorem dX4_readNode_81 : decode cX4_readNode 81 = .ok (.iadd, 1) := by decide +kernel
theorem dX4_readNode_82 : decode cX4_readNode 82 = .ok (.iastore, 1) := by decide +kernel
theorem dX4_readNode_83 : decode cX4_readNode 83 = .ok (.return_, 1) := by decide +kernel
theorem dX4_isToldLeaf_0 : decode cX4_isToldLeaf 0 = .ok (.aload_n 0, 1) := by decide +kernel
theorem dX4_isToldLeaf_1 : decode cX4_isToldLeaf 1 = .ok (.getfield 197, 3) := by decide +kernel
theorem dX4_isToldLeaf_4 : decode cX4_isToldLeaf 4 = .ok (.iconst 1, 1) := by decide +kernel
theorem dX4_isToldLeaf_5 : decode cX4_isToldLeaf 5 = .ok (.if_icmp .ne 40, 3) := by decide +kernel
theorem dX4_isToldLeaf_8 : decode cX4_isToldLeaf 8 = .ok (.aload_n 0, 1) := by decide +kernel
theorem dX4_isToldLeaf_9 : decode cX4_isToldLeaf 9 = .ok (.getfield 194, 3) := by decide +kernel
theorem dX4_isToldLeaf_12 : decode cX4_isToldLeaf 12 = .ok (.iconst 0, 1) := by decide +kernel
theorem dX4_isToldLeaf_13 : decode cX4_isToldLeaf 13 = .ok (.aload_n 0, 1) := by decide +kernel
theorem dX4_isToldLeaf_14 : decode cX4_isToldLeaf 14 = .ok (.getfield 13, 3) := by decide +kernel
theorem dX4_isToldLeaf_17 : decode cX4_isToldLeaf 17 = .ok (.bipush 95, 2) := by decide +kernel
theorem dX4_isToldLeaf_19 : decode cX4_isToldLeaf 19 = .ok (.iaload, 1) := by decide +kernel
theorem dX4_isToldLeaf_20 : decode cX4_isToldLeaf 20 = .ok (.iconst 1, 1) := by decide +kernel
theorem dX4_isToldLeaf_21 : decode cX4_isToldLeaf 21 = .ok (.isub, 1) := by decide +kernel
theorem dX4_isToldLeaf_22 : decode cX4_isToldLeaf 22 = .ok (.invokestatic 56, 3) := by decide +kernel
theorem dX4_isToldLeaf_25 : decode cX4_isToldLeaf 25 = .ok (.ifCond .eq 20, 3) := by decide +kernel
theorem dX4_isToldLeaf_28 : decode cX4_isToldLeaf 28 = .ok (.aload_n 0, 1) := by decide +kernel
theorem dX4_isToldLeaf_29 : decode cX4_isToldLeaf 29 = .ok (.getfield 13, 3) := by decide +kernel
theorem dX4_isToldLeaf_32 : decode cX4_isToldLeaf 32 = .ok (.aload_n 0, 1) := by decide +kernel
theorem dX4_isToldLeaf_33 : decode cX4_isToldLeaf 33 = .ok (.getfield 194, 3) := by decide +kernel
theorem dX4_isToldLeaf_36 : decode cX4_isToldLeaf 36 = .ok (.iaload, 1) := by decide +kernel
theorem dX4_isToldLeaf_37 : decode cX4_isToldLeaf 37 = .ok (.iconst 1, 1) := by decide +kernel
theorem dX4_isToldLeaf_38 : decode cX4_isToldLeaf 38 = .ok (.if_icmp .gt 7, 3) := by decide +kernel
theorem dX4_isToldLeaf_41 : decode cX4_isToldLeaf 41 = .ok (.iconst 1, 1) := by decide +kernel
theorem dX4_isToldLeaf_42 : decode cX4_isToldLeaf 42 = .ok (.goto 4, 3) := by decide +kernel
theorem dX4_isToldLeaf_45 : decode cX4_isToldLeaf 45 = .ok (.iconst 0, 1) := by decide +kernel
theorem dX4_isToldLeaf_46 : decode cX4_isToldLeaf 46 = .ok (.ireturn, 1) := by decide +kernel
theorem dX4_readMark_0 : decode cX4_readMark 0 = .ok (.bipush 80, 2) := by decide +kernel
theorem dX4_readMark_2 : decode cX4_readMark 2 = .ok (.iconst 2, 1) := by decide +kernel
theorem dX4_readMark_3 : decode cX4_readMark 3 = .ok (.aload_n 0, 1) := by decide +kernel
theorem dX4_readMark_4 : decode cX4_readMark 4 = .ok (.getfield 13, 3) := by decide +kernel
theorem dX4_readMark_7 : decode cX4_readMark 7 = .ok (.bipush 96, 2) := by decide +kernel
theorem dX4_readMark_9 : decode cX4_readMark 9 = .ok (.iaload, 1) := by decide +kernel
theorem dX4_readMark_10 : decode cX4_readMark 10 = .ok (.imul, 1) := by decide +kernel
theorem dX4_readMark_11 : decode cX4_readMark 11 = .ok (.iadd, 1) := by decide +kernel
theorem dX4_readMark_12 : decode cX4_readMark 12 = .ok (.istore_n 1, 1) := by decide +kernel
theorem dX4_readMark_13 : decode cX4_readMark 13 = .ok (.aload_n 0, 1) := by decide +kernel
theorem dX4_readMark_14 : decode cX4_readMark 14 = .ok (.aload_n 0, 1) := by decide +kernel
theorem dX4_readMark_15 : decode cX4_readMark 15 = .ok (.invokevirtual 216, 3) := by decide +kernel
theorem dX4_readMark_18 : decode cX4_readMark 18 = .ok (.invokevirtual 209, 3) := by decide +kernel
theorem dX4_readMark_21 : decode cX4_readMark 21 = .ok (.istore_n 2, 1) := by decide +kernel
theorem dX4_readMark_22 : decode cX4_readMark 22 = .ok (.aload_n 0, 1) := by decide +kernel
theorem dX4_readMark_23 : decode cX4_readMark 23 = .ok (.aload_n 0, 1) := by decide +kernel
theorem dX4_readMark_24 : decode cX4_readMark 24 = .ok (.invokevirtual 216, 3) := by decide +kernel
theorem dX4_readMark_27 : decode cX4_readMark 27 = .ok (.ifCond .eq 15, 3) := by decide +kernel
theorem dX4_readMark_30 : decode cX4_readMark 30 = .ok (.aload_n 0, 1) := by decide +kernel
theorem dX4_readMark_31 : decode cX4_readMark 31 = .ok (.getfield 194, 3) := by decide +kernel
theorem dX4_readMark_34 : decode cX4_readMark 34 = .ok (.iload_n 2, 1) := by decide +kernel
theorem dX4_readMark_35 : decode cX4_readMark 35 = .ok (.if_icmp .eq 7, 3) := by decide +kernel
theorem dX4_readMark_38 : decode cX4_readMark 38 = .ok (.iconst 1, 1) := by decide +kernel
theorem dX4_readMark_39 : decode cX4_readMark 39 = .ok (.goto 4, 3) := by decide +kernel
theorem dX4_readMark_42 : decode cX4_readMark 42 = .ok (.iconst 0, 1) := by decide +kernel
theorem dX4_readMark_43 : decode cX4_readMark 43 = .ok (.invokevirtual 209, 3) := by decide +kernel
theorem dX4_readMark_46 : decode cX4_readMark 46 = .ok (.istore_n 3, 1) := by decide +kernel
theorem dX4_readMark_47 : decode cX4_readMark 47 = .ok (.aload_n 0, 1) := by decide +kernel
theorem dX4_readMark_48 : decode cX4_readMark 48 = .ok (.getfield 13, 3) := by decide +kernel
theorem dX4_readMark_51 : decode cX4_readMark 51 = .ok (.iload_n 1, 1) := by decide +kernel
theorem dX4_readMark_52 : decode cX4_readMark 52 = .ok (.iload_n 2, 1) := by decide +kernel
theorem dX4_readMark_53 : decode cX4_readMark 53 = .ok (.iastore, 1) := by decide +kernel
theorem dX4_readMark_54 : decode cX4_readMark 54 = .ok (.aload_n 0, 1) := by decide +kernel
theorem dX4_readMark_55 : decode cX4_readMark 55 = .ok (.getfield 13, 3) := by decide +kernel
theorem dX4_readMark_58 : decode cX4_readMark 58 = .ok (.iload_n 1, 1) := by decide +kernel
theorem dX4_readMark_59 : decode cX4_readMark 59 = .ok (.iconst 1, 1) := by decide +kernel
theorem dX4_readMark_60 : decode cX4_readMark 60 = .ok (.iadd, 1) := by decide +kernel
theorem dX4_readMark_61 : decode cX4_readMark 61 = .ok (.iload_n 3, 1) := by decide +kernel
theorem dX4_readMark_62 : decode cX4_readMark 62 = .ok (.iastore, 1) := by decide +kernel
theorem dX4_readMark_63 : decode cX4_readMark 63 = .ok (.aload_n 0, 1) := by decide +kernel
theorem dX4_readMark_64 : decode cX4_readMark 64 = .ok (.getfield 13, 3) := by decide +kernel
theorem dX4_readMark_67 : decode cX4_readMark 67 = .ok (.bipush 96, 2) := by decide +kernel
theorem dX4_readMark_69 : decode cX4_readMark 69 = .ok (.dup2, 1) := by decide +kernel
theorem dX4_readMark_70 : decode cX4_readMark 70 = .ok (.iaload, 1) := by decide +kernel
theorem dX4_readMark_71 : decode cX4_readMark 71 = .ok (.iconst 1, 1) := by decide +kernel
theorem dX4_readMark_72 : decode cX4_readMark 72 = .ok (.iadd, 1) := by decide +kernel
theorem dX4_readMark_73 : decode cX4_readMark 73 = .ok (.iastore, 1) := by decide +kernel
theorem dX4_readMark_74 : decode cX4_readMark 74 = .ok (.return_, 1) := by decide +kernel
theorem dX4_readItem_0 : decode cX4_readItem 0 = .ok (.aload_n 0, 1) := by decide +kernel
theorem dX4_readItem_1 : decode cX4_readItem 1 = .ok (.getfield 197, 3) := by decide +kernel
theorem dX4_readItem_4 : decode cX4_readItem 4 = .ok (.istore_n 1, 1) := by decide +kernel
theorem dX4_readItem_5 : decode cX4_readItem 5 = .ok (.iload_n 1, 1) := by decide +kernel
theorem dX4_readItem_6 : decode cX4_readItem 6 = .ok (.invokestatic 220, 3) := by decide +kernel
theorem dX4_readItem_9 : decode cX4_readItem 9 = .ok (.istore_n 2, 1) := by decide +kernel
theorem dX4_readItem_10 : decode cX4_readItem 10 = .ok (.iload_n 1, 1) := by decide +kernel
theorem dX4_readItem_11 : decode cX4_readItem 11 = .ok (.bipush 103, 2) := by decide +kernel
theorem dX4_readItem_13 : decode cX4_readItem 13 = .ok (.if_icmp .eq 9, 3) := by decide +kernel
theorem dX4_readItem_16 : decode cX4_readItem 16 = .ok (.iload_n 1, 1) := by decide +kernel
theorem dX4_readItem_17 : decode cX4_readItem 17 = .ok (.bipush 101, 2) := by decide +kernel
theorem dX4_readItem_19 : decode cX4_readItem 19 = .ok (.if_icmp .ne 7, 3) := by decide +kernel
theorem dX4_readItem_22 : decode cX4_readItem 22 = .ok (.iconst 1, 1) := by decide +kernel
theorem dX4_readItem_23 : decode cX4_readItem 23 = .ok (.goto 4, 3) := by decide +kernel
theorem dX4_readItem_26 : decode cX4_readItem 26 = .ok (.iconst 0, 1) := by decide +kernel
theorem dX4_readItem_27 : decode cX4_readItem 27 = .ok (.istore_n 3, 1) := by decide +kernel
theorem dX4_readItem_28 : decode cX4_readItem 28 = .ok (.aload_n 0, 1) := by decide +kernel
theorem dX4_readItem_29 : decode cX4_readItem 29 = .ok (.iload_n 2, 1) := by decide +kernel
theorem dX4_readItem_30 : decode cX4_readItem 30 = .ok (.bipush (-9), 2) := by decide +kernel
theorem dX4_readItem_32 : decode cX4_readItem 32 = .ok (.if_icmp .eq 15, 3) := by decide +kernel
theorem dX4_readItem_35 : decode cX4_readItem 35 = .ok (.aload_n 0, 1) := by decide +kernel
theorem dX4_readItem_36 : decode cX4_readItem 36 = .ok (.getfield 13, 3) := by decide +kernel
theorem dX4_readItem_39 : decode cX4_readItem 39 = .ok (.bipush 95, 2) := by decide +kernel
theorem dX4_readItem_41 : decode cX4_readItem 41 = .ok (.iaload, 1) := by decide +kernel
theorem dX4_readItem_42 : decode cX4_readItem 42 = .ok (.bipush 16, 2) := by decide +kernel
theorem dX4_readItem_44 : decode cX4_readItem 44 = .ok (.if_icmp .lt 25, 3) := by decide +kernel
theorem dX4_readItem_47 : decode cX4_readItem 47 = .ok (.iload_n 3, 1) := by decide +kernel
theorem dX4_readItem_48 : decode cX4_readItem 48 = .ok (.ifCond .eq 15, 3) := by decide +kernel
theorem dX4_readItem_51 : decode cX4_readItem 51 = .ok (.aload_n 0, 1) := by decide +kernel
theorem dX4_readItem_52 : decode cX4_readItem 52 = .ok (.getfield 13, 3) := by decide +kernel
theorem dX4_readItem_55 : decode cX4_readItem 55 = .ok (.bipush 96, 2) := by decide +kernel
theorem dX4_readItem_57 : decode cX4_readItem 57 = .ok (.iaload, 1) := by decide +kernel
theorem dX4_readItem_58 : decode cX4_readItem 58 = .ok (.bipush 6, 2) := by decide +kernel
theorem dX4_readItem_60 : decode cX4_readItem 60 = .ok (.if_icmp .lt 9, 3) := by decide +kernel
theorem dX4_readItem_63 : decode cX4_readItem 63 = .ok (.iload_n 1, 1) := by decide +kernel
theorem dX4_readItem_64 : decode cX4_readItem 64 = .ok (.bipush 112, 2) := by decide +kernel
theorem dX4_readItem_66 : decode cX4_readItem 66 = .ok (.if_icmp .ne 7, 3) := by decide +kernel
theorem dX4_readItem_69 : decode cX4_readItem 69 = .ok (.iconst 1, 1) := by decide +kernel
theorem dX4_readItem_70 : decode cX4_readItem 70 = .ok (.goto 4, 3) := by decide +kernel
theorem dX4_readItem_73 : decode cX4_readItem 73 = .ok (.iconst 0, 1) := by decide +kernel
theorem dX4_readItem_74 : decode cX4_readItem 74 = .ok (.invokevirtual 209, 3) := by decide +kernel
theorem dX4_readItem_77 : decode cX4_readItem 77 = .ok (.pop, 1) := by decide +kernel
theorem dX4_readItem_78 : decode cX4_readItem 78 = .ok (.aload_n 0, 1) := by decide +kernel
theorem dX4_readItem_79 : decode cX4_readItem 79 = .ok (.getfield 203, 3) := by decide +kernel
theorem dX4_readItem_82 : decode cX4_readItem 82 = .ok (.bipush (-9), 2) := by decide +kernel
theorem dX4_readItem_84 : decode cX4_readItem 84 = .ok (.if_icmp .eq 4, 3) := by decide +kernel
theorem dX4_readItem_87 : decode cX4_readItem 87 = .ok (.return_, 1) := by decide +kernel
theorem dX4_readItem_88 : decode cX4_readItem 88 = .ok (.iload_n 2, 1) := by decide +kernel
theorem dX4_readItem_89 : decode cX4_readItem 89 = .ok (.bipush (-9), 2) := by decide +kernel
theorem dX4_readItem_91 : decode cX4_readItem 91 = .ok (.if_icmp .eq 11, 3) := by decide +kernel
theorem dX4_readItem_94 : decode cX4_readItem 94 = .ok (.aload_n 0, 1) := by decide +kernel
theorem dX4_readItem_95 : decode cX4_readItem 95 = .ok (.iload_n 2, 1) := by decide +kernel
theorem dX4_readItem_96 : decode cX4_readItem 96 = .ok (.invokevirtual 223, 3) := by decide +kernel
theorem dX4_readItem_99 : decode cX4_readItem 99 = .ok (.goto 56, 3) := by decide +kernel
theorem dX4_readItem_102 : decode cX4_readItem 102 = .ok (.iload_n 3, 1) := by decide +kernel
theorem dX4_readItem_103 : decode cX4_readItem 103 = .ok (.ifCond .eq 10, 3) := by decide +kernel
theorem dX4_readItem_106 : decode cX4_readItem 106 = .ok (.aload_n 0, 1) := by decide +kernel
theorem dX4_readItem_107 : decode cX4_readItem 107 = .ok (.invokevirtual 227, 3) := by decide +kernel
theorem dX4_readItem_110 : decode cX4_readItem 110 = .ok (.goto 45, 3) := by decide +kernel
theorem dX4_readItem_113 : decode cX4_readItem 113 = .ok (.aload_n 0, 1) := by decide +kernel
theorem dX4_readItem_114 : decode cX4_readItem 114 = .ok (.iconst 0, 1) := by decide +kernel
theorem dX4_readItem_115 : decode cX4_readItem 115 = .ok (.iconst 2, 1) := by decide +kernel
theorem dX4_readItem_116 : decode cX4_readItem 116 = .ok (.invokevirtual 213, 3) := by decide +kernel
theorem dX4_readItem_119 : decode cX4_readItem 119 = .ok (.istore 4, 2) := by decide +kernel
theorem dX4_readItem_121 : decode cX4_readItem 121 = .ok (.aload_n 0, 1) := by decide +kernel
theorem dX4_readItem_122 : decode cX4_readItem 122 = .ok (.iconst 1, 1) := by decide +kernel
theorem dX4_readItem_123 : decode cX4_readItem 123 = .ok (.bipush 9, 2) := by decide +kernel
theorem dX4_readItem_125 : decode cX4_readItem 125 = .ok (.invokevirtual 213, 3) := by decide +kernel
theorem dX4_readItem_128 : decode cX4_readItem 128 = .ok (.istore 5, 2) := by decide +kernel
theorem dX4_readItem_130 : decode cX4_readItem 130 = .ok (.aload_n 0, 1) := by decide +kernel
theorem dX4_readItem_131 : decode cX4_readItem 131 = .ok (.getfield 13, 3) := by decide +kernel
theorem dX4_readItem_134 : decode cX4_readItem 134 = .ok (.bipush 92, 2) := by decide +kernel
theorem dX4_readItem_136 : decode cX4_readItem 136 = .ok (.aload_n 0, 1) := by decide +kernel
theorem dX4_readItem_137 : decode cX4_readItem 137 = .ok (.getfield 203, 3) := by decide +kernel
theorem dX4_readItem_140 : decode cX4_readItem 140 = .ok (.bipush (-9), 2) := by decide +kernel
theorem dX4_readItem_142 : decode cX4_readItem 142 = .ok (.if_icmp .ne 8, 3) := by decide +kernel
theorem dX4_readItem_145 : decode cX4_readItem 145 = .ok (.iload 4, 2) := by decide +kernel
theorem dX4_readItem_147 : decode cX4_readItem 147 = .ok (.goto 4, 3) := by decide +kernel
theorem dX4_readItem_150 : decode cX4_readItem 150 = .ok (.iconst 0, 1) := by decide +kernel
theorem dX4_readItem_151 : decode cX4_readItem 151 = .ok (.iadd, 1) := by decide +kernel
theorem dX4_readItem_152 : decode cX4_readItem 152 = .ok (.iload 5, 2) := by decide +kernel
theorem dX4_readItem_154 : decode cX4_readItem 154 = .ok (.iastore, 1) := by decide +kernel
theorem dX4_readItem_155 : decode cX4_readItem 155 = .ok (.aload_n 0, 1) := by decide +kernel
theorem dX4_readItem_156 : decode cX4_readItem 156 = .ok (.aload_n 0, 1) := by decide +kernel
theorem dX4_readItem_157 : decode cX4_readItem 157 = .ok (.getfield 197, 3) := by decide +kernel
theorem dX4_readItem_160 : decode cX4_readItem 160 = .ok (.bipush 59, 2) := by decide +kernel
theorem dX4_readItem_162 : decode cX4_readItem 162 = .ok (.if_icmp .ne 7, 3) := by decide +kernel
theorem dX4_readItem_165 : decode cX4_readItem 165 = .ok (.iconst 1, 1) := by decide +kernel
theorem dX4_readItem_166 : decode cX4_readItem 166 = .ok (.goto 4, 3) := by decide +kernel
theorem dX4_readItem_169 : decode cX4_readItem 169 = .ok (.iconst 0, 1) := by decide +kernel
theorem dX4_readItem_170 : decode cX4_readItem 170 = .ok (.invokevirtual 209, 3) := by decide +kernel
theorem dX4_readItem_173 : decode cX4_readItem 173 = .ok (.pop, 1) := by decide +kernel
theorem dX4_readItem_174 : decode cX4_readItem 174 = .ok (.return_, 1) := by decide +kernel
theorem dX4_tells_0 : decode cX4_tells 0 = .ok (.aload_n 0, 1) := by decide +kernel
theorem dX4_tells_1 : decode cX4_tells 1 = .ok (.getfield 13, 3) := by decide +kernel
theorem dX4_tells_4 : decode cX4_tells 4 = .ok (.invokestatic 41, 3) := by decide +kernel
theorem dX4_tells_7 : decode cX4_tells 7 = .ok (.aload_n 0, 1) := by decide +kernel
theorem dX4_tells_8 : decode cX4_tells 8 = .ok (.iconst 0, 1) := by decide +kernel
theorem dX4_tells_9 : decode cX4_tells 9 = .ok (.putfield 188, 3) := by decide +kernel
theorem dX4_tells_12 : decode cX4_tells 12 = .ok (.aload_n 0, 1) := by decide +kernel
theorem dX4_tells_13 : decode cX4_tells 13 = .ok (.bipush (-9), 2) := by decide +kernel
theorem dX4_tells_15 : decode cX4_tells 15 = .ok (.putfield 203, 3) := by decide +kernel
theorem dX4_tells_18 : decode cX4_tells 18 = .ok (.iconst 0, 1) := by decide +kernel
theorem dX4_tells_19 : decode cX4_tells 19 = .ok (.istore_n 1, 1) := by decide +kernel
theorem dX4_tells_20 : decode cX4_tells 20 = .ok (.aload_n 0, 1) := by decide +kernel
theorem dX4_tells_21 : decode cX4_tells 21 = .ok (.invokevirtual 206, 3) := by decide +kernel
theorem dX4_tells_24 : decode cX4_tells 24 = .ok (.aload_n 0, 1) := by decide +kernel
theorem dX4_tells_25 : decode cX4_tells 25 = .ok (.getfield 203, 3) := by decide +kernel
theorem dX4_tells_28 : decode cX4_tells 28 = .ok (.bipush (-9), 2) := by decide +kernel
theorem dX4_tells_30 : decode cX4_tells 30 = .ok (.if_icmp .ne 20, 3) := by decide +kernel
theorem dX4_tells_33 : decode cX4_tells 33 = .ok (.aload_n 0, 1) := by decide +kernel
theorem dX4_tells_34 : decode cX4_tells 34 = .ok (.getfield 197, 3) := by decide +kernel
theorem dX4_tells_37 : decode cX4_tells 37 = .ok (.ifCond .eq 13, 3) := by decide +kernel
theorem dX4_tells_40 : decode cX4_tells 40 = .ok (.aload_n 0, 1) := by decide +kernel
theorem dX4_tells_41 : decode cX4_tells 41 = .ok (.invokevirtual 230, 3) := by decide +kernel
theorem dX4_tells_44 : decode cX4_tells 44 = .ok (.iinc 1 1, 3) := by decide +kernel
theorem dX4_tells_47 : decode cX4_tells 47 = .ok (.goto (-23), 3) := by decide +kernel
theorem dX4_tells_50 : decode cX4_tells 50 = .ok (.aload_n 0, 1) := by decide +kernel
theorem dX4_tells_51 : decode cX4_tells 51 = .ok (.getfield 203, 3) := by decide +kernel
theorem dX4_tells_54 : decode cX4_tells 54 = .ok (.bipush (-9), 2) := by decide +kernel
theorem dX4_tells_56 : decode cX4_tells 56 = .ok (.if_icmp .eq 11, 3) := by decide +kernel
theorem dX4_tells_59 : decode cX4_tells 59 = .ok (.bipush (-10), 2) := by decide +kernel
theorem dX4_tells_61 : decode cX4_tells 61 = .ok (.aload_n 0, 1) := by decide +kernel
theorem dX4_tells_62 : decode cX4_tells 62 = .ok (.getfield 203, 3) := by decide +kernel
theorem dX4_tells_65 : decode cX4_tells 65 = .ok (.isub, 1) := by decide +kernel
theorem dX4_tells_66 : decode cX4_tells 66 = .ok (.ireturn, 1) := by decide +kernel
theorem dX4_tells_67 : decode cX4_tells 67 = .ok (.iconst 0, 1) := by decide +kernel
theorem dX4_tells_68 : decode cX4_tells 68 = .ok (.istore_n 2, 1) := by decide +kernel
theorem dX4_tells_69 : decode cX4_tells 69 = .ok (.iload_n 2, 1) := by decide +kernel
theorem dX4_tells_70 : decode cX4_tells 70 = .ok (.bipush 97, 2) := by decide +kernel
theorem dX4_tells_72 : decode cX4_tells 72 = .ok (.if_icmp .ge 21, 3) := by decide +kernel
theorem dX4_tells_75 : decode cX4_tells 75 = .ok (.aload_n 0, 1) := by decide +kernel
theorem dX4_tells_76 : decode cX4_tells 76 = .ok (.getfield 7, 3) := by decide +kernel
theorem dX4_tells_79 : decode cX4_tells 79 = .ok (.iload_n 2, 1) := by decide +kernel
theorem dX4_tells_80 : decode cX4_tells 80 = .ok (.aload_n 0, 1) := by decide +kernel
theorem dX4_tells_81 : decode cX4_tells 81 = .ok (.getfield 13, 3) := by decide +kernel
theorem dX4_tells_84 : decode cX4_tells 84 = .ok (.iload_n 2, 1) := by decide +kernel
theorem dX4_tells_85 : decode cX4_tells 85 = .ok (.iaload, 1) := by decide +kernel
theorem dX4_tells_86 : decode cX4_tells 86 = .ok (.iastore, 1) := by decide +kernel
theorem dX4_tells_87 : decode cX4_tells 87 = .ok (.iinc 2 1, 3) := by decide +kernel
theorem dX4_tells_90 : decode cX4_tells 90 = .ok (.goto (-21), 3) := by decide +kernel
theorem dX4_tells_93 : decode cX4_tells 93 = .ok (.aload_n 0, 1) := by decide +kernel
theorem dX4_tells_94 : decode cX4_tells 94 = .ok (.iconst 0, 1) := by decide +kernel
theorem dX4_tells_95 : decode cX4_tells 95 = .ok (.putfield 185, 3) := by decide +kernel
theorem dX4_tells_98 : decode cX4_tells 98 = .ok (.aload_n 0, 1) := by decide +kernel
theorem dX4_tells_99 : decode cX4_tells 99 = .ok (.invokevirtual 45, 3) := by decide +kernel
theorem dX4_tells_102 : decode cX4_tells 102 = .ok (.iload_n 1, 1) := by decide +kernel
theorem dX4_tells_103 : decode cX4_tells 103 = .ok (.ireturn, 1) := by decide +kernel
theorem dJ6_bitCount_0f7a4_0 : decode cJ6_bitCount_0f7a4 0 = .ok (.iload_n 0, 1) := by decide +kernel
theorem dJ6_bitCount_0f7a4_1 : decode cJ6_bitCount_0f7a4 1 = .ok (.iload_n 0, 1) := by decide +kernel
theorem dJ6_bitCount_0f7a4_2 : decode cJ6_bitCount_0f7a4 2 = .ok (.iconst 1, 1) := by decide +kernel
theorem dJ6_bitCount_0f7a4_3 : decode cJ6_bitCount_0f7a4 3 = .ok (.iushr, 1) := by decide +kernel
theorem dJ6_bitCount_0f7a4_4 : decode cJ6_bitCount_0f7a4 4 = .ok (.ldc_w 265, 3) := by decide +kernel
theorem dJ6_bitCount_0f7a4_7 : decode cJ6_bitCount_0f7a4 7 = .ok (.iand, 1) := by decide +kernel
theorem dJ6_bitCount_0f7a4_8 : decode cJ6_bitCount_0f7a4 8 = .ok (.isub, 1) := by decide +kernel
theorem dJ6_bitCount_0f7a4_9 : decode cJ6_bitCount_0f7a4 9 = .ok (.istore_n 0, 1) := by decide +kernel
theorem dJ6_bitCount_0f7a4_10 : decode cJ6_bitCount_0f7a4 10 = .ok (.iload_n 0, 1) := by decide +kernel
theorem dJ6_bitCount_0f7a4_11 : decode cJ6_bitCount_0f7a4 11 = .ok (.ldc_w 266, 3) := by decide +kernel
theorem dJ6_bitCount_0f7a4_14 : decode cJ6_bitCount_0f7a4 14 = .ok (.iand, 1) := by decide +kernel
theorem dJ6_bitCount_0f7a4_15 : decode cJ6_bitCount_0f7a4 15 = .ok (.iload_n 0, 1) := by decide +kernel
theorem dJ6_bitCount_0f7a4_16 : decode cJ6_bitCount_0f7a4 16 = .ok (.iconst 2, 1) := by decide +kernel
theorem dJ6_bitCount_0f7a4_17 : decode cJ6_bitCount_0f7a4 17 = .ok (.iushr, 1) := by decide +kernel
theorem dJ6_bitCount_0f7a4_18 : decode cJ6_bitCount_0f7a4 18 = .ok (.ldc_w 266, 3) := by decide +kernel
theorem dJ6_bitCount_0f7a4_21 : decode cJ6_bitCount_0f7a4 21 = .ok (.iand, 1) := by decide +kernel
theorem dJ6_bitCount_0f7a4_22 : decode cJ6_bitCount_0f7a4 22 = .ok (.iadd, 1) := by decide +kernel
theorem dJ6_bitCount_0f7a4_23 : decode cJ6_bitCount_0f7a4 23 = .ok (.istore_n 0, 1) := by decide +kernel
theorem dJ6_bitCount_0f7a4_24 : decode cJ6_bitCount_0f7a4 24 = .ok (.iload_n 0, 1) := by decide +kernel
theorem dJ6_bitCount_0f7a4_25 : decode cJ6_bitCount_0f7a4 25 = .ok (.iload_n 0, 1) := by decide +kernel
theorem dJ6_bitCount_0f7a4_26 : decode cJ6_bitCount_0f7a4 26 = .ok (.iconst 4, 1) := by decide +kernel
theorem dJ6_bitCount_0f7a4_27 : decode cJ6_bitCount_0f7a4 27 = .ok (.iushr, 1) := by decide +kernel
theorem dJ6_bitCount_0f7a4_28 : decode cJ6_bitCount_0f7a4 28 = .ok (.iadd, 1) := by decide +kernel
theorem dJ6_bitCount_0f7a4_29 : decode cJ6_bitCount_0f7a4 29 = .ok (.ldc_w 267, 3) := by decide +kernel
theorem dJ6_bitCount_0f7a4_32 : decode cJ6_bitCount_0f7a4 32 = .ok (.iand, 1) := by decide +kernel
theorem dJ6_bitCount_0f7a4_33 : decode cJ6_bitCount_0f7a4 33 = .ok (.istore_n 0, 1) := by decide +kernel
theorem dJ6_bitCount_0f7a4_34 : decode cJ6_bitCount_0f7a4 34 = .ok (.iload_n 0, 1) := by decide +kernel
theorem dJ6_bitCount_0f7a4_35 : decode cJ6_bitCount_0f7a4 35 = .ok (.iload_n 0, 1) := by decide +kernel
theorem dJ6_bitCount_0f7a4_36 : decode cJ6_bitCount_0f7a4 36 = .ok (.bipush 8, 2) := by decide +kernel
theorem dJ6_bitCount_0f7a4_38 : decode cJ6_bitCount_0f7a4 38 = .ok (.iushr, 1) := by decide +kernel
theorem dJ6_bitCount_0f7a4_39 : decode cJ6_bitCount_0f7a4 39 = .ok (.iadd, 1) := by decide +kernel
theorem dJ6_bitCount_0f7a4_40 : decode cJ6_bitCount_0f7a4 40 = .ok (.istore_n 0, 1) := by decide +kernel
theorem dJ6_bitCount_0f7a4_41 : decode cJ6_bitCount_0f7a4 41 = .ok (.iload_n 0, 1) := by decide +kernel
theorem dJ6_bitCount_0f7a4_42 : decode cJ6_bitCount_0f7a4 42 = .ok (.iload_n 0, 1) := by decide +kernel
theorem dJ6_bitCount_0f7a4_43 : decode cJ6_bitCount_0f7a4 43 = .ok (.bipush 16, 2) := by decide +kernel
theorem dJ6_bitCount_0f7a4_45 : decode cJ6_bitCount_0f7a4 45 = .ok (.iushr, 1) := by decide +kernel
theorem dJ6_bitCount_0f7a4_46 : decode cJ6_bitCount_0f7a4 46 = .ok (.iadd, 1) := by decide +kernel
theorem dJ6_bitCount_0f7a4_47 : decode cJ6_bitCount_0f7a4 47 = .ok (.istore_n 0, 1) := by decide +kernel
theorem dJ6_bitCount_0f7a4_48 : decode cJ6_bitCount_0f7a4 48 = .ok (.iload_n 0, 1) := by decide +kernel
theorem dJ6_bitCount_0f7a4_49 : decode cJ6_bitCount_0f7a4 49 = .ok (.bipush 63, 2) := by decide +kernel
theorem dJ6_bitCount_0f7a4_51 : decode cJ6_bitCount_0f7a4 51 = .ok (.iand, 1) := by decide +kernel
theorem dJ6_bitCount_0f7a4_52 : decode cJ6_bitCount_0f7a4 52 = .ok (.ireturn, 1) := by decide +kernel
theorem dJ9_min_7cf53_0 : decode cJ9_min_7cf53 0 = .ok (.iload_n 0, 1) := by decide +kernel
theorem dJ9_min_7cf53_1 : decode cJ9_min_7cf53 1 = .ok (.iload_n 1, 1) := by decide +kernel
theorem dJ9_min_7cf53_2 : decode cJ9_min_7cf53 2 = .ok (.if_icmp .gt 7, 3) := by decide +kernel
theorem dJ9_min_7cf53_5 : decode cJ9_min_7cf53 5 = .ok (.iload_n 0, 1) := by decide +kernel
theorem dJ9_min_7cf53_6 : decode cJ9_min_7cf53 6 = .ok (.goto 4, 3) := by decide +kernel
theorem dJ9_min_7cf53_9 : decode cJ9_min_7cf53 9 = .ok (.iload_n 1, 1) := by decide +kernel
theorem dJ9_min_7cf53_10 : decode cJ9_min_7cf53 10 = .ok (.ireturn, 1) := by decide +kernel
theorem dJ0_length_8abf5_0 : decode cJ0_length_8abf5 0 = .ok (.aload_n 0, 1) := by decide +kernel
theorem dJ0_length_8abf5_1 : decode cJ0_length_8abf5 1 = .ok (.getfield 9, 3) := by decide +kernel
theorem dJ0_length_8abf5_4 : decode cJ0_length_8abf5 4 = .ok (.arraylength, 1) := by decide +kernel
theorem dJ0_length_8abf5_5 : decode cJ0_length_8abf5 5 = .ok (.aload_n 0, 1) := by decide +kernel
theorem dJ0_length_8abf5_6 : decode cJ0_length_8abf5 6 = .ok (.invokevirtual 335, 3) := by decide +kernel
theorem dJ0_length_8abf5_9 : decode cJ0_length_8abf5 9 = .ok (.ishr, 1) := by decide +kernel
theorem dJ0_length_8abf5_10 : decode cJ0_length_8abf5 10 = .ok (.ireturn, 1) := by decide +kernel
theorem dJ0_isEmpty_aae02_0 : decode cJ0_isEmpty_aae02 0 = .ok (.aload_n 0, 1) := by decide +kernel
theorem dJ0_isEmpty_aae02_1 : decode cJ0_isEmpty_aae02 1 = .ok (.getfield 9, 3) := by decide +kernel
theorem dJ0_isEmpty_aae02_4 : decode cJ0_isEmpty_aae02 4 = .ok (.arraylength, 1) := by decide +kernel
theorem dJ0_isEmpty_aae02_5 : decode cJ0_isEmpty_aae02 5 = .ok (.ifCond .ne 7, 3) := by decide +kernel
theorem dJ0_isEmpty_aae02_8 : decode cJ0_isEmpty_aae02 8 = .ok (.iconst 1, 1) := by decide +kernel
theorem dJ0_isEmpty_aae02_9 : decode cJ0_isEmpty_aae02 9 = .ok (.goto 4, 3) := by decide +kernel
theorem dJ0_isEmpty_aae02_12 : decode cJ0_isEmpty_aae02 12 = .ok (.iconst 0, 1) := by decide +kernel
theorem dJ0_isEmpty_aae02_13 : decode cJ0_isEmpty_aae02 13 = .ok (.ireturn, 1) := by decide +kernel
theorem dJ0_charAt_5068e_0 : decode cJ0_charAt_5068e 0 = .ok (.aload_n 0, 1) := by decide +kernel
theorem dJ0_charAt_5068e_1 : decode cJ0_charAt_5068e 1 = .ok (.invokevirtual 492, 3) := by decide +kernel
theorem dJ0_charAt_5068e_4 : decode cJ0_charAt_5068e 4 = .ok (.ifCond .eq 12, 3) := by decide +kernel
theorem dJ0_charAt_5068e_7 : decode cJ0_charAt_5068e 7 = .ok (.aload_n 0, 1) := by decide +kernel
theorem dJ0_charAt_5068e_8 : decode cJ0_charAt_5068e 8 = .ok (.getfield 9, 3) := by decide +kernel
theorem dJ0_charAt_5068e_11 : decode cJ0_charAt_5068e 11 = .ok (.iload_n 1, 1) := by decide +kernel
theorem dJ0_charAt_5068e_12 : decode cJ0_charAt_5068e 12 = .ok (.invokestatic 495, 3) := by decide +kernel
theorem dJ0_charAt_5068e_15 : decode cJ0_charAt_5068e 15 = .ok (.ireturn, 1) := by decide +kernel
theorem dJ0_charAt_5068e_16 : decode cJ0_charAt_5068e 16 = .ok (.aload_n 0, 1) := by decide +kernel
theorem dJ0_charAt_5068e_17 : decode cJ0_charAt_5068e 17 = .ok (.getfield 9, 3) := by decide +kernel
theorem dJ0_charAt_5068e_20 : decode cJ0_charAt_5068e 20 = .ok (.iload_n 1, 1) := by decide +kernel
theorem dJ0_charAt_5068e_21 : decode cJ0_charAt_5068e 21 = .ok (.invokestatic 498, 3) := by decide +kernel
theorem dJ0_charAt_5068e_24 : decode cJ0_charAt_5068e 24 = .ok (.ireturn, 1) := by decide +kernel
theorem dJ0_coder_7d493_0 : decode cJ0_coder_7d493 0 = .ok (.getstatic 38, 3) := by decide +kernel
theorem dJ0_coder_7d493_3 : decode cJ0_coder_7d493 3 = .ok (.ifCond .eq 10, 3) := by decide +kernel
theorem dJ0_coder_7d493_6 : decode cJ0_coder_7d493 6 = .ok (.aload_n 0, 1) := by decide +kernel
theorem dJ0_coder_7d493_7 : decode cJ0_coder_7d493 7 = .ok (.getfield 15, 3) := by decide +kernel
theorem dJ0_coder_7d493_10 : decode cJ0_coder_7d493 10 = .ok (.goto 4, 3) := by decide +kernel
theorem dJ0_coder_7d493_13 : decode cJ0_coder_7d493 13 = .ok (.iconst 1, 1) := by decide +kernel
theorem dJ0_coder_7d493_14 : decode cJ0_coder_7d493 14 = .ok (.ireturn, 1) := by decide +kernel
theorem dJ0_isLatin1_aae02_0 : decode cJ0_isLatin1_aae02 0 = .ok (.getstatic 38, 3) := by decide +kernel
theorem dJ0_isLatin1_aae02_3 : decode cJ0_isLatin1_aae02 3 = .ok (.ifCond .eq 14, 3) := by decide +kernel
theorem dJ0_isLatin1_aae02_6 : decode cJ0_isLatin1_aae02 6 = .ok (.aload_n 0, 1) := by decide +kernel
theorem dJ0_isLatin1_aae02_7 : decode cJ0_isLatin1_aae02 7 = .ok (.getfield 15, 3) := by decide +kernel
theorem dJ0_isLatin1_aae02_10 : decode cJ0_isLatin1_aae02 10 = .ok (.ifCond .ne 7, 3) := by decide +kernel
theorem dJ0_isLatin1_aae02_13 : decode cJ0_isLatin1_aae02 13 = .ok (.iconst 1, 1) := by decide +kernel
theorem dJ0_isLatin1_aae02_14 : decode cJ0_isLatin1_aae02 14 = .ok (.goto 4, 3) := by decide +kernel
theorem dJ0_isLatin1_aae02_17 : decode cJ0_isLatin1_aae02 17 = .ok (.iconst 0, 1) := by decide +kernel
theorem dJ0_isLatin1_aae02_18 : decode cJ0_isLatin1_aae02 18 = .ok (.ireturn, 1) := by decide +kernel
theorem dJ0_checkIndex_df160_0 : decode cJ0_checkIndex_df160 0 = .ok (.iload_n 0, 1) := by decide +kernel
theorem dJ0_checkIndex_df160_1 : decode cJ0_checkIndex_df160 1 = .ok (.iload_n 1, 1) := by decide +kernel
theorem dJ0_checkIndex_df160_2 : decode cJ0_checkIndex_df160 2 = .ok (.getstatic 1053, 3) := by decide +kernel
theorem dJ0_checkIndex_df160_5 : decode cJ0_checkIndex_df160 5 = .ok (.invokestatic 1059, 3) := by decide +kernel
theorem dJ0_checkIndex_df160_8 : decode cJ0_checkIndex_df160 8 = .ok (.pop, 1) := by decide +kernel
theorem dJ0_checkIndex_df160_9 : decode cJ0_checkIndex_df160 9 = .ok (.return_, 1) := by decide +kernel
theorem dJ1_charAt_3b067_0 : decode cJ1_charAt_3b067 0 = .ok (.iload_n 1, 1) := by decide +kernel
theorem dJ1_charAt_3b067_1 : decode cJ1_charAt_3b067 1 = .ok (.aload_n 0, 1) := by decide +kernel
theorem dJ1_charAt_3b067_2 : decode cJ1_charAt_3b067 2 = .ok (.arraylength, 1) := by decide +kernel
theorem dJ1_charAt_3b067_3 : decode cJ1_charAt_3b067 3 = .ok (.invokestatic 9, 3) := by decide +kernel
theorem dJ1_charAt_3b067_6 : decode cJ1_charAt_3b067 6 = .ok (.aload_n 0, 1) := by decide +kernel
theorem dJ1_charAt_3b067_7 : decode cJ1_charAt_3b067 7 = .ok (.iload_n 1, 1) := by decide +kernel
theorem dJ1_charAt_3b067_8 : decode cJ1_charAt_3b067 8 = .ok (.baload, 1) := by decide +kernel
theorem dJ1_charAt_3b067_9 : decode cJ1_charAt_3b067 9 = .ok (.sipush 255, 3) := by decide +kernel
theorem dJ1_charAt_3b067_12 : decode cJ1_charAt_3b067 12 = .ok (.iand, 1) := by decide +kernel
theorem dJ1_charAt_3b067_13 : decode cJ1_charAt_3b067 13 = .ok (.i2c, 1) := by decide +kernel
theorem dJ1_charAt_3b067_14 : decode cJ1_charAt_3b067 14 = .ok (.ireturn, 1) := by decide +kernel
theorem dJ2_getChar_3b067_0 : decode cJ2_getChar_3b067 0 = .ok (.getstatic 44, 3) := by decide +kernel
theorem dJ2_getChar_3b067_3 : decode cJ2_getChar_3b067 3 = .ok (.ifCond .ne 25, 3) := by decide +kernel
theorem dJ2_getChar_3b067_6 : decode cJ2_getChar_3b067 6 = .ok (.iload_n 1, 1) := by decide +kernel
theorem dJ2_getChar_3b067_7 : decode cJ2_getChar_3b067 7 = .ok (.ifCond .lt 11, 3) := by decide +kernel
theorem dJ2_getChar_3b067_10 : decode cJ2_getChar_3b067 10 = .ok (.iload_n 1, 1) := by decide +kernel
theorem dJ2_getChar_3b067_11 : decode cJ2_getChar_3b067 11 = .ok (.aload_n 0, 1) := by decide +kernel
theorem dJ2_getChar_3b067_12 : decode cJ2_getChar_3b067 12 = .ok (.invokestatic 48, 3) := by decide +kernel
theorem dJ2_getChar_3b067_15 : decode cJ2_getChar_3b067 15 = .ok (.if_icmp .lt 13, 3) := by decide +kernel
theorem dJ2_getChar_3b067_18 : decode cJ2_getChar_3b067 18 = .ok (.new 52, 3) := by decide +kernel
theorem dJ2_getChar_3b067_21 : decode cJ2_getChar_3b067 21 = .ok (.dup, 1) := by decide +kernel
theorem dJ2_getChar_3b067_22 : decode cJ2_getChar_3b067 22 = .ok (.ldc 54, 2) := by decide +kernel
theorem dJ2_getChar_3b067_24 : decode cJ2_getChar_3b067 24 = .ok (.invokespecial 56, 3) := by decide +kernel
theorem dJ2_getChar_3b067_27 : decode cJ2_getChar_3b067 27 = .ok (.athrow, 1) := by decide +kernel
theorem dJ2_getChar_3b067_28 : decode cJ2_getChar_3b067 28 = .ok (.iload_n 1, 1) := by decide +kernel
theorem dJ2_getChar_3b067_29 : decode cJ2_getChar_3b067 29 = .ok (.iconst 1, 1) := by decide +kernel
theorem dJ2_getChar_3b067_30 : decode cJ2_getChar_3b067 30 = .ok (.ishl, 1) := by decide +kernel
theorem dJ2_getChar_3b067_31 : decode cJ2_getChar_3b067 31 = .ok (.istore_n 1, 1) := by decide +kernel
theorem dJ2_getChar_3b067_32 : decode cJ2_getChar_3b067 32 = .ok (.aload_n 0, 1) := by decide +kernel
theorem dJ2_getChar_3b067_33 : decode cJ2_getChar_3b067 33 = .ok (.iload_n 1, 1) := by decide +kernel
theorem dJ2_getChar_3b067_34 : decode cJ2_getChar_3b067 34 = .ok (.iinc 1 1, 3) := by decide +kernel
theorem dJ2_getChar_3b067_37 : decode cJ2_getChar_3b067 37 = .ok (.baload, 1) := by decide +kernel
theorem dJ2_getChar_3b067_38 : decode cJ2_getChar_3b067 38 = .ok (.sipush 255, 3) := by decide +kernel
theorem dJ2_getChar_3b067_41 : decode cJ2_getChar_3b067 41 = .ok (.iand, 1) := by decide +kernel
theorem dJ2_getChar_3b067_42 : decode cJ2_getChar_3b067 42 = .ok (.getstatic 59, 3) := by decide +kernel
theorem dJ2_getChar_3b067_45 : decode cJ2_getChar_3b067 45 = .ok (.ishl, 1) := by decide +kernel
theorem dJ2_getChar_3b067_46 : decode cJ2_getChar_3b067 46 = .ok (.aload_n 0, 1) := by decide +kernel
theorem dJ2_getChar_3b067_47 : decode cJ2_getChar_3b067 47 = .ok (.iload_n 1, 1) := by decide +kernel
theorem dJ2_getChar_3b067_48 : decode cJ2_getChar_3b067 48 = .ok (.baload, 1) := by decide +kernel
theorem dJ2_getChar_3b067_49 : decode cJ2_getChar_3b067 49 = .ok (.sipush 255, 3) := by decide +kernel
theorem dJ2_getChar_3b067_52 : decode cJ2_getChar_3b067 52 = .ok (.iand, 1) := by decide +kernel
theorem dJ2_getChar_3b067_53 : decode cJ2_getChar_3b067 53 = .ok (.getstatic 63, 3) := by decide +kernel
theorem dJ2_getChar_3b067_56 : decode cJ2_getChar_3b067 56 = .ok (.ishl, 1) := by decide +kernel
theorem dJ2_getChar_3b067_57 : decode cJ2_getChar_3b067 57 = .ok (.ior, 1) := by decide +kernel
theorem dJ2_getChar_3b067_58 : decode cJ2_getChar_3b067 58 = .ok (.i2c, 1) := by decide +kernel
theorem dJ2_getChar_3b067_59 : decode cJ2_getChar_3b067 59 = .ok (.ireturn, 1) := by decide +kernel
theorem dJ2_length_9d52b_0 : decode cJ2_length_9d52b 0 = .ok (.aload_n 0, 1) := by decide +kernel
theorem dJ2_length_9d52b_1 : decode cJ2_length_9d52b 1 = .ok (.arraylength, 1) := by decide +kernel
theorem dJ2_length_9d52b_2 : decode cJ2_length_9d52b 2 = .ok (.iconst 1, 1) := by decide +kernel
theorem dJ2_length_9d52b_3 : decode cJ2_length_9d52b 3 = .ok (.ishr, 1) := by decide +kernel
theorem dJ2_length_9d52b_4 : decode cJ2_length_9d52b 4 = .ok (.ireturn, 1) := by decide +kernel
theorem dJ2_charAt_3b067_0 : decode cJ2_charAt_3b067 0 = .ok (.iload_n 1, 1) := by decide +kernel
theorem dJ2_charAt_3b067_1 : decode cJ2_charAt_3b067 1 = .ok (.aload_n 0, 1) := by decide +kernel
theorem dJ2_charAt_3b067_2 : decode cJ2_charAt_3b067 2 = .ok (.invokestatic 67, 3) := by decide +kernel
theorem dJ2_charAt_3b067_5 : decode cJ2_charAt_3b067 5 = .ok (.aload_n 0, 1) := by decide +kernel
theorem dJ2_charAt_3b067_6 : decode cJ2_charAt_3b067 6 = .ok (.iload_n 1, 1) := by decide +kernel
theorem dJ2_charAt_3b067_7 : decode cJ2_charAt_3b067 7 = .ok (.invokestatic 71, 3) := by decide +kernel
theorem dJ2_charAt_3b067_10 : decode cJ2_charAt_3b067 10 = .ok (.ireturn, 1) := by decide +kernel
theorem dJ2_checkIndex_2214a_0 : decode cJ2_checkIndex_2214a 0 = .ok (.iload_n 0, 1) := by decide +kernel
theorem dJ2_checkIndex_2214a_1 : decode cJ2_checkIndex_2214a 1 = .ok (.aload_n 1, 1) := by decide +kernel
theorem dJ2_checkIndex_2214a_2 : decode cJ2_checkIndex_2214a 2 = .ok (.invokestatic 48, 3) := by decide +kernel
theorem dJ2_checkIndex_2214a_5 : decode cJ2_checkIndex_2214a 5 = .ok (.invokestatic 414, 3) := by decide +kernel
theorem dJ2_checkIndex_2214a_8 : decode cJ2_checkIndex_2214a 8 = .ok (.return_, 1) := by decide +kernel
theorem dJ3_checkIndex_8e157_0 : decode cJ3_checkIndex_8e157 0 = .ok (.iload_n 0, 1) := by decide +kernel
theorem dJ3_checkIndex_8e157_1 : decode cJ3_checkIndex_8e157 1 = .ok (.ifCond .lt 8, 3) := by decide +kernel
theorem dJ3_checkIndex_8e157_4 : decode cJ3_checkIndex_8e157 4 = .ok (.iload_n 0, 1) := by decide +kernel
theorem dJ3_checkIndex_8e157_5 : decode cJ3_checkIndex_8e157 5 = .ok (.iload_n 1, 1) := by decide +kernel
theorem dJ3_checkIndex_8e157_6 : decode cJ3_checkIndex_8e157 6 = .ok (.if_icmp .lt 10, 3) := by decide +kernel
theorem dJ3_checkIndex_8e157_9 : decode cJ3_checkIndex_8e157 9 = .ok (.aload_n 2, 1) := by decide +kernel
theorem dJ3_checkIndex_8e157_10 : decode cJ3_checkIndex_8e157 10 = .ok (.iload_n 0, 1) := by decide +kernel
theorem dJ3_checkIndex_8e157_11 : decode cJ3_checkIndex_8e157 11 = .ok (.iload_n 1, 1) := by decide +kernel
theorem dJ3_checkIndex_8e157_12 : decode cJ3_checkIndex_8e157 12 = .ok (.invokestatic 95, 3) := by decide +kernel
theorem dJ3_checkIndex_8e157_15 : decode cJ3_checkIndex_8e157 15 = .ok (.athrow, 1) := by decide +kernel
theorem dJ3_checkIndex_8e157_16 : decode cJ3_checkIndex_8e157 16 = .ok (.iload_n 0, 1) := by decide +kernel
theorem dJ3_checkIndex_8e157_17 : decode cJ3_checkIndex_8e157 17 = .ok (.ireturn, 1) := by decide +kernel
theorem dL_law_0 : decode cL_law 0 = .ok (.new 7, 3) := by decide +kernel
theorem dL_law_3 : decode cL_law 3 = .ok (.dup, 1) := by decide +kernel
theorem dL_law_4 : decode cL_law 4 = .ok (.invokespecial 9, 3) := by decide +kernel
theorem dL_law_7 : decode cL_law 7 = .ok (.astore_n 1, 1) := by decide +kernel
theorem dL_law_8 : decode cL_law 8 = .ok (.new 10, 3) := by decide +kernel
theorem dL_law_11 : decode cL_law 11 = .ok (.dup, 1) := by decide +kernel
theorem dL_law_12 : decode cL_law 12 = .ok (.invokespecial 12, 3) := by decide +kernel
theorem dL_law_15 : decode cL_law 15 = .ok (.astore_n 2, 1) := by decide +kernel
theorem dL_law_16 : decode cL_law 16 = .ok (.iconst 0, 1) := by decide +kernel
theorem dL_law_17 : decode cL_law 17 = .ok (.istore_n 3, 1) := by decide +kernel
theorem dL_law_18 : decode cL_law 18 = .ok (.iload_n 3, 1) := by decide +kernel
theorem dL_law_19 : decode cL_law 19 = .ok (.aload_n 0, 1) := by decide +kernel
theorem dL_law_20 : decode cL_law 20 = .ok (.arraylength, 1) := by decide +kernel
theorem dL_law_21 : decode cL_law 21 = .ok (.iconst 3, 1) := by decide +kernel
theorem dL_law_22 : decode cL_law 22 = .ok (.isub, 1) := by decide +kernel
theorem dL_law_23 : decode cL_law 23 = .ok (.if_icmp .gt 554, 3) := by decide +kernel
theorem dL_law_26 : decode cL_law 26 = .ok (.aload_n 0, 1) := by decide +kernel
theorem dL_law_27 : decode cL_law 27 = .ok (.iload_n 3, 1) := by decide +kernel
theorem dL_law_28 : decode cL_law 28 = .ok (.iaload, 1) := by decide +kernel
theorem dL_law_29 : decode cL_law 29 = .ok (.bipush 31, 2) := by decide +kernel
theorem dL_law_31 : decode cL_law 31 = .ok (.iand, 1) := by decide +kernel
theorem dL_law_32 : decode cL_law 32 = .ok (.tableswitch 539 0 18 #[92, 115, 128, 141, 164, 197, 220, 233, 266, 299, 322, 345, 378, 391, 414, 437, 470, 493, 516], 92) := by decide +kernel
theorem dL_law_124 : decode cL_law 124 = .ok (.aload_n 1, 1) := by decide +kernel
theorem dL_law_125 : decode cL_law 125 = .ok (.aload_n 0, 1) := by decide +kernel
theorem dL_law_126 : decode cL_law 126 = .ok (.iload_n 3, 1) := by decide +kernel
theorem dL_law_127 : decode cL_law 127 = .ok (.iconst 1, 1) := by decide +kernel
theorem dL_law_128 : decode cL_law 128 = .ok (.iadd, 1) := by decide +kernel
theorem dL_law_129 : decode cL_law 129 = .ok (.iaload, 1) := by decide +kernel
theorem dL_law_130 : decode cL_law 130 = .ok (.invokevirtual 13, 3) := by decide +kernel
theorem dL_law_133 : decode cL_law 133 = .ok (.aload_n 2, 1) := by decide +kernel
theorem dL_law_134 : decode cL_law 134 = .ok (.aload_n 0, 1) := by decide +kernel
theorem dL_law_135 : decode cL_law 135 = .ok (.iload_n 3, 1) := by decide +kernel
theorem dL_law_136 : decode cL_law 136 = .ok (.iconst 1, 1) := by decide +kernel
theorem dL_law_137 : decode cL_law 137 = .ok (.iadd, 1) := by decide +kernel
theorem dL_law_138 : decode cL_law 138 = .ok (.iaload, 1) := by decide +kernel
theorem dL_law_139 : decode cL_law 139 = .ok (.invokevirtual 17, 3) := by decide +kernel
theorem dL_law_142 : decode cL_law 142 = .ok (.if_icmp .eq 429, 3) := by decide +kernel
theorem dL_law_145 : decode cL_law 145 = .ok (.iconst 0, 1) := by decide +kernel
theorem dL_law_146 : decode cL_law 146 = .ok (.ireturn, 1) := by decide +kernel
theorem dL_law_147 : decode cL_law 147 = .ok (.aload_n 1, 1) := by decide +kernel
theorem dL_law_148 : decode cL_law 148 = .ok (.invokevirtual 18, 3) := by decide +kernel
theorem dL_law_151 : decode cL_law 151 = .ok (.aload_n 2, 1) := by decide +kernel
theorem dL_law_152 : decode cL_law 152 = .ok (.invokevirtual 22, 3) := by decide +kernel
theorem dL_law_155 : decode cL_law 155 = .ok (.if_icmp .eq 416, 3) := by decide +kernel
theorem dL_law_158 : decode cL_law 158 = .ok (.iconst 0, 1) := by decide +kernel
theorem dL_law_159 : decode cL_law 159 = .ok (.ireturn, 1) := by decide +kernel
theorem dL_law_160 : decode cL_law 160 = .ok (.aload_n 1, 1) := by decide +kernel
theorem dL_law_161 : decode cL_law 161 = .ok (.invokevirtual 23, 3) := by decide +kernel
theorem dL_law_164 : decode cL_law 164 = .ok (.aload_n 2, 1) := by decide +kernel
theorem dL_law_165 : decode cL_law 165 = .ok (.invokevirtual 26, 3) := by decide +kernel
theorem dL_law_168 : decode cL_law 168 = .ok (.if_icmp .eq 403, 3) := by decide +kernel
theorem dL_law_171 : decode cL_law 171 = .ok (.iconst 0, 1) := by decide +kernel
theorem dL_law_172 : decode cL_law 172 = .ok (.ireturn, 1) := by decide +kernel
theorem dL_law_173 : decode cL_law 173 = .ok (.aload_n 1, 1) := by decide +kernel
theorem dL_law_174 : decode cL_law 174 = .ok (.aload_n 0, 1) := by decide +kernel
theorem dL_law_175 : decode cL_law 175 = .ok (.iload_n 3, 1) := by decide +kernel
theorem dL_law_176 : decode cL_law 176 = .ok (.iconst 1, 1) := by decide +kernel
theorem dL_law_177 : decode cL_law 177 = .ok (.iadd, 1) := by decide +kernel
theorem dL_law_178 : decode cL_law 178 = .ok (.iaload, 1) := by decide +kernel
theorem dL_law_179 : decode cL_law 179 = .ok (.invokevirtual 27, 3) := by decide +kernel
theorem dL_law_182 : decode cL_law 182 = .ok (.aload_n 2, 1) := by decide +kernel
theorem dL_law_183 : decode cL_law 183 = .ok (.aload_n 0, 1) := by decide +kernel
theorem dL_law_184 : decode cL_law 184 = .ok (.iload_n 3, 1) := by decide +kernel
theorem dL_law_185 : decode cL_law 185 = .ok (.iconst 1, 1) := by decide +kernel
theorem dL_law_186 : decode cL_law 186 = .ok (.iadd, 1) := by decide +kernel
theorem dL_law_187 : decode cL_law 187 = .ok (.iaload, 1) := by decide +kernel
theorem dL_law_188 : decode cL_law 188 = .ok (.invokevirtual 30, 3) := by decide +kernel
theorem dL_law_191 : decode cL_law 191 = .ok (.if_icmp .eq 380, 3) := by decide +kernel
theorem dL_law_194 : decode cL_law 194 = .ok (.iconst 0, 1) := by decide +kernel
theorem dL_law_195 : decode cL_law 195 = .ok (.ireturn, 1) := by decide +kernel
theorem dL_law_196 : decode cL_law 196 = .ok (.aload_n 1, 1) := by decide +kernel
theorem dL_law_197 : decode cL_law 197 = .ok (.aload_n 0, 1) := by decide +kernel
theorem dL_law_198 : decode cL_law 198 = .ok (.iload_n 3, 1) := by decide +kernel
theorem dL_law_199 : decode cL_law 199 = .ok (.iconst 1, 1) := by decide +kernel
theorem dL_law_200 : decode cL_law 200 = .ok (.iadd, 1) := by decide +kernel
theorem dL_law_201 : decode cL_law 201 = .ok (.iaload, 1) := by decide +kernel
theorem dL_law_202 : decode cL_law 202 = .ok (.aload_n 0, 1) := by decide +kernel
theorem dL_law_203 : decode cL_law 203 = .ok (.iload_n 3, 1) := by decide +kernel
theorem dL_law_204 : decode cL_law 204 = .ok (.iconst 2, 1) := by decide +kernel
theorem dL_law_205 : decode cL_law 205 = .ok (.iadd, 1) := by decide +kernel
theorem dL_law_206 : decode cL_law 206 = .ok (.iaload, 1) := by decide +kernel
theorem dL_law_207 : decode cL_law 207 = .ok (.invokevirtual 31, 3) := by decide +kernel
theorem dL_law_210 : decode cL_law 210 = .ok (.aload_n 2, 1) := by decide +kernel
theorem dL_law_211 : decode cL_law 211 = .ok (.aload_n 0, 1) := by decide +kernel
theorem dL_law_212 : decode cL_law 212 = .ok (.iload_n 3, 1) := by decide +kernel
theorem dL_law_213 : decode cL_law 213 = .ok (.iconst 1, 1) := by decide +kernel
theorem dL_law_214 : decode cL_law 214 = .ok (.iadd, 1) := by decide +kernel
theorem dL_law_215 : decode cL_law 215 = .ok (.iaload, 1) := by decide +kernel
theorem dL_law_216 : decode cL_law 216 = .ok (.aload_n 0, 1) := by decide +kernel
theorem dL_law_217 : decode cL_law 217 = .ok (.iload_n 3, 1) := by decide +kernel
theorem dL_law_218 : decode cL_law 218 = .ok (.iconst 2, 1) := by decide +kernel
theorem dL_law_219 : decode cL_law 219 = .ok (.iadd, 1) := by decide +kernel
theorem dL_law_220 : decode cL_law 220 = .ok (.iaload, 1) := by decide +kernel
theorem dL_law_221 : decode cL_law 221 = .ok (.invokevirtual 35, 3) := by decide +kernel
theorem dL_law_224 : decode cL_law 224 = .ok (.if_icmp .eq 347, 3) := by decide +kernel
theorem dL_law_227 : decode cL_law 227 = .ok (.iconst 0, 1) := by decide +kernel
theorem dL_law_228 : decode cL_law 228 = .ok (.ireturn, 1) := by decide +kernel
theorem dL_law_229 : decode cL_law 229 = .ok (.aload_n 1, 1) := by decide +kernel
theorem dL_law_230 : decode cL_law 230 = .ok (.aload_n 0, 1) := by decide +kernel
theorem dL_law_231 : decode cL_law 231 = .ok (.iload_n 3, 1) := by decide +kernel
theorem dL_law_232 : decode cL_law 232 = .ok (.iconst 1, 1) := by decide +kernel
theorem dL_law_233 : decode cL_law 233 = .ok (.iadd, 1) := by decide +kernel
theorem dL_law_234 : decode cL_law 234 = .ok (.iaload, 1) := by decide +kernel
theorem dL_law_235 : decode cL_law 235 = .ok (.invokevirtual 36, 3) := by decide +kernel
theorem dL_law_238 : decode cL_law 238 = .ok (.aload_n 2, 1) := by decide +kernel
theorem dL_law_239 : decode cL_law 239 = .ok (.aload_n 0, 1) := by decide +kernel
theorem dL_law_240 : decode cL_law 240 = .ok (.iload_n 3, 1) := by decide +kernel
theorem dL_law_241 : decode cL_law 241 = .ok (.iconst 1, 1) := by decide +kernel
theorem dL_law_242 : decode cL_law 242 = .ok (.iadd, 1) := by decide +kernel
theorem dL_law_243 : decode cL_law 243 = .ok (.iaload, 1) := by decide +kernel
theorem dL_law_244 : decode cL_law 244 = .ok (.invokevirtual 39, 3) := by decide +kernel
theorem dL_law_247 : decode cL_law 247 = .ok (.if_icmp .eq 324, 3) := by decide +kernel
theorem dL_law_250 : decode cL_law 250 = .ok (.iconst 0, 1) := by decide +kernel
theorem dL_law_251 : decode cL_law 251 = .ok (.ireturn, 1) := by decide +kernel
theorem dL_law_252 : decode cL_law 252 = .ok (.aload_n 1, 1) := by decide +kernel
theorem dL_law_253 : decode cL_law 253 = .ok (.invokevirtual 40, 3) := by decide +kernel
theorem dL_law_256 : decode cL_law 256 = .ok (.aload_n 2, 1) := by decide +kernel
theorem dL_law_257 : decode cL_law 257 = .ok (.invokevirtual 43, 3) := by decide +kernel
theorem dL_law_260 : decode cL_law 260 = .ok (.if_icmp .eq 311, 3) := by decide +kernel
theorem dL_law_263 : decode cL_law 263 = .ok (.iconst 0, 1) := by decide +kernel
theorem dL_law_264 : decode cL_law 264 = .ok (.ireturn, 1) := by decide +kernel
theorem dL_law_265 : decode cL_law 265 = .ok (.aload_n 1, 1) := by decide +kernel
theorem dL_law_266 : decode cL_law 266 = .ok (.aload_n 0, 1) := by decide +kernel
theorem dL_law_267 : decode cL_law 267 = .ok (.iload_n 3, 1) := by decide +kernel
theorem dL_law_268 : decode cL_law 268 = .ok (.iconst 1, 1) := by decide +kernel
theorem dL_law_269 : decode cL_law 269 = .ok (.iadd, 1) := by decide +kernel
theorem dL_law_270 : decode cL_law 270 = .ok (.iaload, 1) := by decide +kernel
theorem dL_law_271 : decode cL_law 271 = .ok (.aload_n 0, 1) := by decide +kernel
theorem dL_law_272 : decode cL_law 272 = .ok (.iload_n 3, 1) := by decide +kernel
theorem dL_law_273 : decode cL_law 273 = .ok (.iconst 2, 1) := by decide +kernel
theorem dL_law_274 : decode cL_law 274 = .ok (.iadd, 1) := by decide +kernel
theorem dL_law_275 : decode cL_law 275 = .ok (.iaload, 1) := by decide +kernel
theorem dL_law_276 : decode cL_law 276 = .ok (.invokevirtual 44, 3) := by decide +kernel
theorem dL_law_279 : decode cL_law 279 = .ok (.aload_n 2, 1) := by decide +kernel
theorem dL_law_280 : decode cL_law 280 = .ok (.aload_n 0, 1) := by decide +kernel
theorem dL_law_281 : decode cL_law 281 = .ok (.iload_n 3, 1) := by decide +kernel
theorem dL_law_282 : decode cL_law 282 = .ok (.iconst 1, 1) := by decide +kernel
theorem dL_law_283 : decode cL_law 283 = .ok (.iadd, 1) := by decide +kernel
theorem dL_law_284 : decode cL_law 284 = .ok (.iaload, 1) := by decide +kernel
theorem dL_law_285 : decode cL_law 285 = .ok (.aload_n 0, 1) := by decide +kernel
theorem dL_law_286 : decode cL_law 286 = .ok (.iload_n 3, 1) := by decide +kernel
theorem dL_law_287 : decode cL_law 287 = .ok (.iconst 2, 1) := by decide +kernel
theorem dL_law_288 : decode cL_law 288 = .ok (.iadd, 1) := by decide +kernel
theorem dL_law_289 : decode cL_law 289 = .ok (.iaload, 1) := by decide +kernel
theorem dL_law_290 : decode cL_law 290 = .ok (.invokevirtual 47, 3) := by decide +kernel
theorem dL_law_293 : decode cL_law 293 = .ok (.if_icmp .eq 278, 3) := by decide +kernel
theorem dL_law_296 : decode cL_law 296 = .ok (.iconst 0, 1) := by decide +kernel
theorem dL_law_297 : decode cL_law 297 = .ok (.ireturn, 1) := by decide +kernel
theorem dL_law_298 : decode cL_law 298 = .ok (.aload_n 1, 1) := by decide +kernel
theorem dL_law_299 : decode cL_law 299 = .ok (.aload_n 0, 1) := by decide +kernel
theorem dL_law_300 : decode cL_law 300 = .ok (.iload_n 3, 1) := by decide +kernel
theorem dL_law_301 : decode cL_law 301 = .ok (.iconst 1, 1) := by decide +kernel
theorem dL_law_302 : decode cL_law 302 = .ok (.iadd, 1) := by decide +kernel
theorem dL_law_303 : decode cL_law 303 = .ok (.iaload, 1) := by decide +kernel
theorem dL_law_304 : decode cL_law 304 = .ok (.aload_n 0, 1) := by decide +kernel
theorem dL_law_305 : decode cL_law 305 = .ok (.iload_n 3, 1) := by decide +kernel
theorem dL_law_306 : decode cL_law 306 = .ok (.iconst 2, 1) := by decide +kernel
theorem dL_law_307 : decode cL_law 307 = .ok (.iadd, 1) := by decide +kernel
theorem dL_law_308 : decode cL_law 308 = .ok (.iaload, 1) := by decide +kernel
theorem dL_law_309 : decode cL_law 309 = .ok (.invokevirtual 48, 3) := by decide +kernel
theorem dL_law_312 : decode cL_law 312 = .ok (.aload_n 2, 1) := by decide +kernel
theorem dL_law_313 : decode cL_law 313 = .ok (.aload_n 0, 1) := by decide +kernel
theorem dL_law_314 : decode cL_law 314 = .ok (.iload_n 3, 1) := by decide +kernel
theorem dL_law_315 : decode cL_law 315 = .ok (.iconst 1, 1) := by decide +kernel
theorem dL_law_316 : decode cL_law 316 = .ok (.iadd, 1) := by decide +kernel
theorem dL_law_317 : decode cL_law 317 = .ok (.iaload, 1) := by decide +kernel
theorem dL_law_318 : decode cL_law 318 = .ok (.aload_n 0, 1) := by decide +kernel
theorem dL_law_319 : decode cL_law 319 = .ok (.iload_n 3, 1) := by decide +kernel
theorem dL_law_320 : decode cL_law 320 = .ok (.iconst 2, 1) := by decide +kernel
theorem dL_law_321 : decode cL_law 321 = .ok (.iadd, 1) := by decide +kernel
theorem dL_law_322 : decode cL_law 322 = .ok (.iaload, 1) := by decide +kernel
theorem dL_law_323 : decode cL_law 323 = .ok (.invokevirtual 51, 3) := by decide +kernel
theorem dL_law_326 : decode cL_law 326 = .ok (.if_icmp .eq 245, 3) := by decide +kernel
theorem dL_law_329 : decode cL_law 329 = .ok (.iconst 0, 1) := by decide +kernel
theorem dL_law_330 : decode cL_law 330 = .ok (.ireturn, 1) := by decide +kernel
theorem dL_law_331 : decode cL_law 331 = .ok (.aload_n 1, 1) := by decide +kernel
theorem dL_law_332 : decode cL_law 332 = .ok (.aload_n 0, 1) := by decide +kernel
theorem dL_law_333 : decode cL_law 333 = .ok (.iload_n 3, 1) := by decide +kernel
theorem dL_law_334 : decode cL_law 334 = .ok (.iconst 1, 1) := by decide +kernel
theorem dL_law_335 : decode cL_law 335 = .ok (.iadd, 1) := by decide +kernel
theorem dL_law_336 : decode cL_law 336 = .ok (.iaload, 1) := by decide +kernel
theorem dL_law_337 : decode cL_law 337 = .ok (.invokevirtual 52, 3) := by decide +kernel
theorem dL_law_340 : decode cL_law 340 = .ok (.aload_n 2, 1) := by decide +kernel
theorem dL_law_341 : decode cL_law 341 = .ok (.aload_n 0, 1) := by decide +kernel
theorem dL_law_342 : decode cL_law 342 = .ok (.iload_n 3, 1) := by decide +kernel
theorem dL_law_343 : decode cL_law 343 = .ok (.iconst 1, 1) := by decide +kernel
theorem dL_law_344 : decode cL_law 344 = .ok (.iadd, 1) := by decide +kernel
theorem dL_law_345 : decode cL_law 345 = .ok (.iaload, 1) := by decide +kernel
theorem dL_law_346 : decode cL_law 346 = .ok (.invokevirtual 55, 3) := by decide +kernel
theorem dL_law_349 : decode cL_law 349 = .ok (.if_icmp .eq 222, 3) := by decide +kernel
theorem dL_law_352 : decode cL_law 352 = .ok (.iconst 0, 1) := by decide +kernel
theorem dL_law_353 : decode cL_law 353 = .ok (.ireturn, 1) := by decide +kernel
theorem dL_law_354 : decode cL_law 354 = .ok (.aload_n 1, 1) := by decide +kernel
theorem dL_law_355 : decode cL_law 355 = .ok (.aload_n 0, 1) := by decide +kernel
theorem dL_law_356 : decode cL_law 356 = .ok (.iload_n 3, 1) := by decide +kernel
theorem dL_law_357 : decode cL_law 357 = .ok (.iconst 1, 1) := by decide +kernel
theorem dL_law_358 : decode cL_law 358 = .ok (.iadd, 1) := by decide +kernel
theorem dL_law_359 : decode cL_law 359 = .ok (.iaload, 1) := by decide +kernel
theorem dL_law_360 : decode cL_law 360 = .ok (.invokevirtual 56, 3) := by decide +kernel
theorem dL_law_363 : decode cL_law 363 = .ok (.aload_n 2, 1) := by decide +kernel
theorem dL_law_364 : decode cL_law 364 = .ok (.aload_n 0, 1) := by decide +kernel
theorem dL_law_365 : decode cL_law 365 = .ok (.iload_n 3, 1) := by decide +kernel
theorem dL_law_366 : decode cL_law 366 = .ok (.iconst 1, 1) := by decide +kernel
theorem dL_law_367 : decode cL_law 367 = .ok (.iadd, 1) := by decide +kernel
theorem dL_law_368 : decode cL_law 368 = .ok (.iaload, 1) := by decide +kernel
theorem dL_law_369 : decode cL_law 369 = .ok (.invokevirtual 59, 3) := by decide +kernel
theorem dL_law_372 : decode cL_law 372 = .ok (.if_icmp .eq 199, 3) := by decide +kernel
theorem dL_law_375 : decode cL_law 375 = .ok (.iconst 0, 1) := by decide +kernel
theorem dL_law_376 : decode cL_law 376 = .ok (.ireturn, 1) := by decide +kernel
theorem dL_law_377 : decode cL_law 377 = .ok (.aload_n 1, 1) := by decide +kernel
theorem dL_law_378 : decode cL_law 378 = .ok (.aload_n 0, 1) := by decide +kernel
theorem dL_law_379 : decode cL_law 379 = .ok (.iload_n 3, 1) := by decide +kernel
theorem dL_law_380 : decode cL_law 380 = .ok (.iconst 1, 1) := by decide +kernel
theorem dL_law_381 : decode cL_law 381 = .ok (.iadd, 1) := by decide +kernel
theorem dL_law_382 : decode cL_law 382 = .ok (.iaload, 1) := by decide +kernel
theorem dL_law_383 : decode cL_law 383 = .ok (.aload_n 0, 1) := by decide +kernel
theorem dL_law_384 : decode cL_law 384 = .ok (.iload_n 3, 1) := by decide +kernel
theorem dL_law_385 : decode cL_law 385 = .ok (.iconst 2, 1) := by decide +kernel
theorem dL_law_386 : decode cL_law 386 = .ok (.iadd, 1) := by decide +kernel
theorem dL_law_387 : decode cL_law 387 = .ok (.iaload, 1) := by decide +kernel
theorem dL_law_388 : decode cL_law 388 = .ok (.invokevirtual 60, 3) := by decide +kernel
theorem dL_law_391 : decode cL_law 391 = .ok (.aload_n 2, 1) := by decide +kernel
theorem dL_law_392 : decode cL_law 392 = .ok (.aload_n 0, 1) := by decide +kernel
theorem dL_law_393 : decode cL_law 393 = .ok (.iload_n 3, 1) := by decide +kernel
theorem dL_law_394 : decode cL_law 394 = .ok (.iconst 1, 1) := by decide +kernel
theorem dL_law_395 : decode cL_law 395 = .ok (.iadd, 1) := by decide +kernel
theorem dL_law_396 : decode cL_law 396 = .ok (.iaload, 1) := by decide +kernel
theorem dL_law_397 : decode cL_law 397 = .ok (.aload_n 0, 1) := by decide +kernel
theorem dL_law_398 : decode cL_law 398 = .ok (.iload_n 3, 1) := by decide +kernel
theorem dL_law_399 : decode cL_law 399 = .ok (.iconst 2, 1) := by decide +kernel
theorem dL_law_400 : decode cL_law 400 = .ok (.iadd, 1) := by decide +kernel
theorem dL_law_401 : decode cL_law 401 = .ok (.iaload, 1) := by decide +kernel
theorem dL_law_402 : decode cL_law 402 = .ok (.invokevirtual 63, 3) := by decide +kernel
theorem dL_law_405 : decode cL_law 405 = .ok (.if_icmp .eq 166, 3) := by decide +kernel
theorem dL_law_408 : decode cL_law 408 = .ok (.iconst 0, 1) := by decide +kernel
theorem dL_law_409 : decode cL_law 409 = .ok (.ireturn, 1) := by decide +kernel
theorem dL_law_410 : decode cL_law 410 = .ok (.aload_n 1, 1) := by decide +kernel
theorem dL_law_411 : decode cL_law 411 = .ok (.invokevirtual 64, 3) := by decide +kernel
theorem dL_law_414 : decode cL_law 414 = .ok (.aload_n 2, 1) := by decide +kernel
theorem dL_law_415 : decode cL_law 415 = .ok (.invokevirtual 67, 3) := by decide +kernel
theorem dL_law_418 : decode cL_law 418 = .ok (.if_icmp .eq 153, 3) := by decide +kernel
theorem dL_law_421 : decode cL_law 421 = .ok (.iconst 0, 1) := by decide +kernel
theorem dL_law_422 : decode cL_law 422 = .ok (.ireturn, 1) := by decide +kernel
theorem dL_law_423 : decode cL_law 423 = .ok (.aload_n 1, 1) := by decide +kernel
theorem dL_law_424 : decode cL_law 424 = .ok (.aload_n 0, 1) := by decide +kernel
theorem dL_law_425 : decode cL_law 425 = .ok (.iload_n 3, 1) := by decide +kernel
theorem dL_law_426 : decode cL_law 426 = .ok (.iconst 1, 1) := by decide +kernel
theorem dL_law_427 : decode cL_law 427 = .ok (.iadd, 1) := by decide +kernel
theorem dL_law_428 : decode cL_law 428 = .ok (.iaload, 1) := by decide +kernel
theorem dL_law_429 : decode cL_law 429 = .ok (.invokevirtual 68, 3) := by decide +kernel
theorem dL_law_432 : decode cL_law 432 = .ok (.aload_n 2, 1) := by decide +kernel
theorem dL_law_433 : decode cL_law 433 = .ok (.aload_n 0, 1) := by decide +kernel
theorem dL_law_434 : decode cL_law 434 = .ok (.iload_n 3, 1) := by decide +kernel
theorem dL_law_435 : decode cL_law 435 = .ok (.iconst 1, 1) := by decide +kernel
theorem dL_law_436 : decode cL_law 436 = .ok (.iadd, 1) := by decide +kernel
theorem dL_law_437 : decode cL_law 437 = .ok (.iaload, 1) := by decide +kernel
theorem dL_law_438 : decode cL_law 438 = .ok (.invokevirtual 71, 3) := by decide +kernel
theorem dL_law_441 : decode cL_law 441 = .ok (.if_icmp .eq 130, 3) := by decide +kernel
theorem dL_law_444 : decode cL_law 444 = .ok (.iconst 0, 1) := by decide +kernel
theorem dL_law_445 : decode cL_law 445 = .ok (.ireturn, 1) := by decide +kernel
theorem dL_law_446 : decode cL_law 446 = .ok (.aload_n 1, 1) := by decide +kernel
theorem dL_law_447 : decode cL_law 447 = .ok (.aload_n 0, 1) := by decide +kernel
theorem dL_law_448 : decode cL_law 448 = .ok (.iload_n 3, 1) := by decide +kernel
theorem dL_law_449 : decode cL_law 449 = .ok (.iconst 1, 1) := by decide +kernel
theorem dL_law_450 : decode cL_law 450 = .ok (.iadd, 1) := by decide +kernel
theorem dL_law_451 : decode cL_law 451 = .ok (.iaload, 1) := by decide +kernel
theorem dL_law_452 : decode cL_law 452 = .ok (.invokevirtual 72, 3) := by decide +kernel
theorem dL_law_455 : decode cL_law 455 = .ok (.aload_n 2, 1) := by decide +kernel
theorem dL_law_456 : decode cL_law 456 = .ok (.aload_n 0, 1) := by decide +kernel
theorem dL_law_457 : decode cL_law 457 = .ok (.iload_n 3, 1) := by decide +kernel
theorem dL_law_458 : decode cL_law 458 = .ok (.iconst 1, 1) := by decide +kernel
theorem dL_law_459 : decode cL_law 459 = .ok (.iadd, 1) := by decide +kernel
theorem dL_law_460 : decode cL_law 460 = .ok (.iaload, 1) := by decide +kernel
theorem dL_law_461 : decode cL_law 461 = .ok (.invokevirtual 75, 3) := by decide +kernel
theorem dL_law_464 : decode cL_law 464 = .ok (.if_icmp .eq 107, 3) := by decide +kernel
theorem dL_law_467 : decode cL_law 467 = .ok (.iconst 0, 1) := by decide +kernel
theorem dL_law_468 : decode cL_law 468 = .ok (.ireturn, 1) := by decide +kernel
theorem dL_law_469 : decode cL_law 469 = .ok (.aload_n 1, 1) := by decide +kernel
theorem dL_law_470 : decode cL_law 470 = .ok (.aload_n 0, 1) := by decide +kernel
theorem dL_law_471 : decode cL_law 471 = .ok (.iload_n 3, 1) := by decide +kernel
theorem dL_law_472 : decode cL_law 472 = .ok (.iconst 1, 1) := by decide +kernel
theorem dL_law_473 : decode cL_law 473 = .ok (.iadd, 1) := by decide +kernel
theorem dL_law_474 : decode cL_law 474 = .ok (.iaload, 1) := by decide +kernel
theorem dL_law_475 : decode cL_law 475 = .ok (.aload_n 0, 1) := by decide +kernel
theorem dL_law_476 : decode cL_law 476 = .ok (.iload_n 3, 1) := by decide +kernel
theorem dL_law_477 : decode cL_law 477 = .ok (.iconst 2, 1) := by decide +kernel
theorem dL_law_478 : decode cL_law 478 = .ok (.iadd, 1) := by decide +kernel
theorem dL_law_479 : decode cL_law 479 = .ok (.iaload, 1) := by decide +kernel
theorem dL_law_480 : decode cL_law 480 = .ok (.invokevirtual 76, 3) := by decide +kernel
theorem dL_law_483 : decode cL_law 483 = .ok (.aload_n 2, 1) := by decide +kernel
theorem dL_law_484 : decode cL_law 484 = .ok (.aload_n 0, 1) := by decide +kernel
theorem dL_law_485 : decode cL_law 485 = .ok (.iload_n 3, 1) := by decide +kernel
theorem dL_law_486 : decode cL_law 486 = .ok (.iconst 1, 1) := by decide +kernel
theorem dL_law_487 : decode cL_law 487 = .ok (.iadd, 1) := by decide +kernel
theorem dL_law_488 : decode cL_law 488 = .ok (.iaload, 1) := by decide +kernel
theorem dL_law_489 : decode cL_law 489 = .ok (.aload_n 0, 1) := by decide +kernel
theorem dL_law_490 : decode cL_law 490 = .ok (.iload_n 3, 1) := by decide +kernel
theorem dL_law_491 : decode cL_law 491 = .ok (.iconst 2, 1) := by decide +kernel
theorem dL_law_492 : decode cL_law 492 = .ok (.iadd, 1) := by decide +kernel
theorem dL_law_493 : decode cL_law 493 = .ok (.iaload, 1) := by decide +kernel
theorem dL_law_494 : decode cL_law 494 = .ok (.invokevirtual 79, 3) := by decide +kernel
theorem dL_law_497 : decode cL_law 497 = .ok (.if_icmp .eq 74, 3) := by decide +kernel
theorem dL_law_500 : decode cL_law 500 = .ok (.iconst 0, 1) := by decide +kernel
theorem dL_law_501 : decode cL_law 501 = .ok (.ireturn, 1) := by decide +kernel
theorem dL_law_502 : decode cL_law 502 = .ok (.aload_n 1, 1) := by decide +kernel
theorem dL_law_503 : decode cL_law 503 = .ok (.aload_n 0, 1) := by decide +kernel
theorem dL_law_504 : decode cL_law 504 = .ok (.iload_n 3, 1) := by decide +kernel
theorem dL_law_505 : decode cL_law 505 = .ok (.iconst 1, 1) := by decide +kernel
theorem dL_law_506 : decode cL_law 506 = .ok (.iadd, 1) := by decide +kernel
theorem dL_law_507 : decode cL_law 507 = .ok (.iaload, 1) := by decide +kernel
theorem dL_law_508 : decode cL_law 508 = .ok (.invokevirtual 80, 3) := by decide +kernel
theorem dL_law_511 : decode cL_law 511 = .ok (.aload_n 2, 1) := by decide +kernel
theorem dL_law_512 : decode cL_law 512 = .ok (.aload_n 0, 1) := by decide +kernel
theorem dL_law_513 : decode cL_law 513 = .ok (.iload_n 3, 1) := by decide +kernel
theorem dL_law_514 : decode cL_law 514 = .ok (.iconst 1, 1) := by decide +kernel
theorem dL_law_515 : decode cL_law 515 = .ok (.iadd, 1) := by decide +kernel
theorem dL_law_516 : decode cL_law 516 = .ok (.iaload, 1) := by decide +kernel
theorem dL_law_517 : decode cL_law 517 = .ok (.invokevirtual 83, 3) := by decide +kernel
theorem dL_law_520 : decode cL_law 520 = .ok (.if_icmp .eq 51, 3) := by decide +kernel
theorem dL_law_523 : decode cL_law 523 = .ok (.iconst 0, 1) := by decide +kernel
theorem dL_law_524 : decode cL_law 524 = .ok (.ireturn, 1) := by decide +kernel
theorem dL_law_525 : decode cL_law 525 = .ok (.aload_n 1, 1) := by decide +kernel
