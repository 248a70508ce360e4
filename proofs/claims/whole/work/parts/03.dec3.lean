theorem dX4_findLeaves_85 : decode cX4_findLeaves 85 = .ok (.return_, 1) := by decide +kernel
theorem dX4_leavesOf_0 : decode cX4_leavesOf 0 = .ok (.aload_n 0, 1) := by decide +kernel
theorem dX4_leavesOf_1 : decode cX4_leavesOf 1 = .ok (.invokevirtual 78, 3) := by decide +kernel
theorem dX4_leavesOf_4 : decode cX4_leavesOf 4 = .ok (.aload_n 0, 1) := by decide +kernel
theorem dX4_leavesOf_5 : decode cX4_leavesOf 5 = .ok (.getfield 32, 3) := by decide +kernel
theorem dX4_leavesOf_8 : decode cX4_leavesOf 8 = .ok (.iload_n 1, 1) := by decide +kernel
theorem dX4_leavesOf_9 : decode cX4_leavesOf 9 = .ok (.iaload, 1) := by decide +kernel
theorem dX4_leavesOf_10 : decode cX4_leavesOf 10 = .ok (.ireturn, 1) := by decide +kernel
theorem dX4_sourcesOf_0 : decode cX4_sourcesOf 0 = .ok (.aload_n 0, 1) := by decide +kernel
theorem dX4_sourcesOf_1 : decode cX4_sourcesOf 1 = .ok (.iload_n 1, 1) := by decide +kernel
theorem dX4_sourcesOf_2 : decode cX4_sourcesOf 2 = .ok (.invokevirtual 81, 3) := by decide +kernel
theorem dX4_sourcesOf_5 : decode cX4_sourcesOf 5 = .ok (.istore_n 2, 1) := by decide +kernel
theorem dX4_sourcesOf_6 : decode cX4_sourcesOf 6 = .ok (.iconst 0, 1) := by decide +kernel
theorem dX4_sourcesOf_7 : decode cX4_sourcesOf 7 = .ok (.istore_n 3, 1) := by decide +kernel
theorem dX4_sourcesOf_8 : decode cX4_sourcesOf 8 = .ok (.iconst 0, 1) := by decide +kernel
theorem dX4_sourcesOf_9 : decode cX4_sourcesOf 9 = .ok (.istore 4, 2) := by decide +kernel
theorem dX4_sourcesOf_11 : decode cX4_sourcesOf 11 = .ok (.iload 4, 2) := by decide +kernel
theorem dX4_sourcesOf_13 : decode cX4_sourcesOf 13 = .ok (.aload_n 0, 1) := by decide +kernel
theorem dX4_sourcesOf_14 : decode cX4_sourcesOf 14 = .ok (.invokevirtual 52, 3) := by decide +kernel
theorem dX4_sourcesOf_17 : decode cX4_sourcesOf 17 = .ok (.if_icmp .ge 33, 3) := by decide +kernel
theorem dX4_sourcesOf_20 : decode cX4_sourcesOf 20 = .ok (.iload_n 3, 1) := by decide +kernel
theorem dX4_sourcesOf_21 : decode cX4_sourcesOf 21 = .ok (.iload_n 2, 1) := by decide +kernel
theorem dX4_sourcesOf_22 : decode cX4_sourcesOf 22 = .ok (.iload 4, 2) := by decide +kernel
theorem dX4_sourcesOf_24 : decode cX4_sourcesOf 24 = .ok (.invokestatic 84, 3) := by decide +kernel
theorem dX4_sourcesOf_27 : decode cX4_sourcesOf 27 = .ok (.ifCond .eq 14, 3) := by decide +kernel
theorem dX4_sourcesOf_30 : decode cX4_sourcesOf 30 = .ok (.iconst 1, 1) := by decide +kernel
theorem dX4_sourcesOf_31 : decode cX4_sourcesOf 31 = .ok (.aload_n 0, 1) := by decide +kernel
theorem dX4_sourcesOf_32 : decode cX4_sourcesOf 32 = .ok (.iload 4, 2) := by decide +kernel
theorem dX4_sourcesOf_34 : decode cX4_sourcesOf 34 = .ok (.invokevirtual 88, 3) := by decide +kernel
theorem dX4_sourcesOf_37 : decode cX4_sourcesOf 37 = .ok (.ishl, 1) := by decide +kernel
theorem dX4_sourcesOf_38 : decode cX4_sourcesOf 38 = .ok (.goto 4, 3) := by decide +kernel
theorem dX4_sourcesOf_41 : decode cX4_sourcesOf 41 = .ok (.iconst 0, 1) := by decide +kernel
theorem dX4_sourcesOf_42 : decode cX4_sourcesOf 42 = .ok (.ior, 1) := by decide +kernel
theorem dX4_sourcesOf_43 : decode cX4_sourcesOf 43 = .ok (.istore_n 3, 1) := by decide +kernel
theorem dX4_sourcesOf_44 : decode cX4_sourcesOf 44 = .ok (.iinc 4 1, 3) := by decide +kernel
theorem dX4_sourcesOf_47 : decode cX4_sourcesOf 47 = .ok (.goto (-36), 3) := by decide +kernel
theorem dX4_sourcesOf_50 : decode cX4_sourcesOf 50 = .ok (.iload_n 3, 1) := by decide +kernel
theorem dX4_sourcesOf_51 : decode cX4_sourcesOf 51 = .ok (.ireturn, 1) := by decide +kernel
theorem dX4_foreign_0 : decode cX4_foreign 0 = .ok (.aload_n 0, 1) := by decide +kernel
theorem dX4_foreign_1 : decode cX4_foreign 1 = .ok (.aload_n 0, 1) := by decide +kernel
theorem dX4_foreign_2 : decode cX4_foreign 2 = .ok (.iload_n 1, 1) := by decide +kernel
theorem dX4_foreign_3 : decode cX4_foreign 3 = .ok (.iconst 0, 1) := by decide +kernel
theorem dX4_foreign_4 : decode cX4_foreign 4 = .ok (.invokevirtual 71, 3) := by decide +kernel
theorem dX4_foreign_7 : decode cX4_foreign 7 = .ok (.invokevirtual 81, 3) := by decide +kernel
theorem dX4_foreign_10 : decode cX4_foreign 10 = .ok (.istore_n 2, 1) := by decide +kernel
theorem dX4_foreign_11 : decode cX4_foreign 11 = .ok (.iconst 0, 1) := by decide +kernel
theorem dX4_foreign_12 : decode cX4_foreign 12 = .ok (.istore_n 3, 1) := by decide +kernel
theorem dX4_foreign_13 : decode cX4_foreign 13 = .ok (.iload_n 3, 1) := by decide +kernel
theorem dX4_foreign_14 : decode cX4_foreign 14 = .ok (.aload_n 0, 1) := by decide +kernel
theorem dX4_foreign_15 : decode cX4_foreign 15 = .ok (.invokevirtual 52, 3) := by decide +kernel
theorem dX4_foreign_18 : decode cX4_foreign 18 = .ok (.if_icmp .ge 42, 3) := by decide +kernel
theorem dX4_foreign_21 : decode cX4_foreign 21 = .ok (.iload_n 2, 1) := by decide +kernel
theorem dX4_foreign_22 : decode cX4_foreign 22 = .ok (.aload_n 0, 1) := by decide +kernel
theorem dX4_foreign_23 : decode cX4_foreign 23 = .ok (.iload_n 3, 1) := by decide +kernel
theorem dX4_foreign_24 : decode cX4_foreign 24 = .ok (.invokevirtual 75, 3) := by decide +kernel
theorem dX4_foreign_27 : decode cX4_foreign 27 = .ok (.ifCond .eq 24, 3) := by decide +kernel
theorem dX4_foreign_30 : decode cX4_foreign 30 = .ok (.aload_n 0, 1) := by decide +kernel
theorem dX4_foreign_31 : decode cX4_foreign 31 = .ok (.iload_n 3, 1) := by decide +kernel
theorem dX4_foreign_32 : decode cX4_foreign 32 = .ok (.invokevirtual 88, 3) := by decide +kernel
theorem dX4_foreign_35 : decode cX4_foreign 35 = .ok (.aload_n 0, 1) := by decide +kernel
theorem dX4_foreign_36 : decode cX4_foreign 36 = .ok (.iload_n 1, 1) := by decide +kernel
theorem dX4_foreign_37 : decode cX4_foreign 37 = .ok (.invokevirtual 88, 3) := by decide +kernel
theorem dX4_foreign_40 : decode cX4_foreign 40 = .ok (.if_icmp .ne 11, 3) := by decide +kernel
theorem dX4_foreign_43 : decode cX4_foreign 43 = .ok (.iconst 1, 1) := by decide +kernel
theorem dX4_foreign_44 : decode cX4_foreign 44 = .ok (.iload_n 3, 1) := by decide +kernel
theorem dX4_foreign_45 : decode cX4_foreign 45 = .ok (.ishl, 1) := by decide +kernel
theorem dX4_foreign_46 : decode cX4_foreign 46 = .ok (.iconst (-1), 1) := by decide +kernel
theorem dX4_foreign_47 : decode cX4_foreign 47 = .ok (.ixor, 1) := by decide +kernel
theorem dX4_foreign_48 : decode cX4_foreign 48 = .ok (.goto 4, 3) := by decide +kernel
theorem dX4_foreign_51 : decode cX4_foreign 51 = .ok (.iconst (-1), 1) := by decide +kernel
theorem dX4_foreign_52 : decode cX4_foreign 52 = .ok (.iand, 1) := by decide +kernel
theorem dX4_foreign_53 : decode cX4_foreign 53 = .ok (.istore_n 2, 1) := by decide +kernel
theorem dX4_foreign_54 : decode cX4_foreign 54 = .ok (.iinc 3 1, 3) := by decide +kernel
theorem dX4_foreign_57 : decode cX4_foreign 57 = .ok (.goto (-44), 3) := by decide +kernel
theorem dX4_foreign_60 : decode cX4_foreign 60 = .ok (.iload_n 2, 1) := by decide +kernel
theorem dX4_foreign_61 : decode cX4_foreign 61 = .ok (.ireturn, 1) := by decide +kernel
theorem dX4_isDirect_0 : decode cX4_isDirect 0 = .ok (.aload_n 0, 1) := by decide +kernel
theorem dX4_isDirect_1 : decode cX4_isDirect 1 = .ok (.iload_n 1, 1) := by decide +kernel
theorem dX4_isDirect_2 : decode cX4_isDirect 2 = .ok (.invokevirtual 91, 3) := by decide +kernel
theorem dX4_isDirect_5 : decode cX4_isDirect 5 = .ok (.aload_n 0, 1) := by decide +kernel
theorem dX4_isDirect_6 : decode cX4_isDirect 6 = .ok (.iload_n 1, 1) := by decide +kernel
theorem dX4_isDirect_7 : decode cX4_isDirect 7 = .ok (.iconst 0, 1) := by decide +kernel
theorem dX4_isDirect_8 : decode cX4_isDirect 8 = .ok (.invokevirtual 71, 3) := by decide +kernel
theorem dX4_isDirect_11 : decode cX4_isDirect 11 = .ok (.invokestatic 84, 3) := by decide +kernel
theorem dX4_isDirect_14 : decode cX4_isDirect 14 = .ok (.ireturn, 1) := by decide +kernel
theorem dX4_onlyOne_0 : decode cX4_onlyOne 0 = .ok (.bipush (-9), 2) := by decide +kernel
theorem dX4_onlyOne_2 : decode cX4_onlyOne 2 = .ok (.istore_n 2, 1) := by decide +kernel
theorem dX4_onlyOne_3 : decode cX4_onlyOne 3 = .ok (.iconst 0, 1) := by decide +kernel
theorem dX4_onlyOne_4 : decode cX4_onlyOne 4 = .ok (.istore_n 3, 1) := by decide +kernel
theorem dX4_onlyOne_5 : decode cX4_onlyOne 5 = .ok (.iconst 0, 1) := by decide +kernel
theorem dX4_onlyOne_6 : decode cX4_onlyOne 6 = .ok (.istore 4, 2) := by decide +kernel
theorem dX4_onlyOne_8 : decode cX4_onlyOne 8 = .ok (.iload 4, 2) := by decide +kernel
theorem dX4_onlyOne_10 : decode cX4_onlyOne 10 = .ok (.aload_n 0, 1) := by decide +kernel
theorem dX4_onlyOne_11 : decode cX4_onlyOne 11 = .ok (.invokevirtual 52, 3) := by decide +kernel
theorem dX4_onlyOne_14 : decode cX4_onlyOne 14 = .ok (.if_icmp .ge 36, 3) := by decide +kernel
theorem dX4_onlyOne_17 : decode cX4_onlyOne 17 = .ok (.aload_n 0, 1) := by decide +kernel
theorem dX4_onlyOne_18 : decode cX4_onlyOne 18 = .ok (.iload 4, 2) := by decide +kernel
theorem dX4_onlyOne_20 : decode cX4_onlyOne 20 = .ok (.iload_n 1, 1) := by decide +kernel
theorem dX4_onlyOne_21 : decode cX4_onlyOne 21 = .ok (.invokevirtual 94, 3) := by decide +kernel
theorem dX4_onlyOne_24 : decode cX4_onlyOne 24 = .ok (.ifCond .le 8, 3) := by decide +kernel
theorem dX4_onlyOne_27 : decode cX4_onlyOne 27 = .ok (.iload 4, 2) := by decide +kernel
theorem dX4_onlyOne_29 : decode cX4_onlyOne 29 = .ok (.goto 4, 3) := by decide +kernel
theorem dX4_onlyOne_32 : decode cX4_onlyOne 32 = .ok (.iload_n 2, 1) := by decide +kernel
theorem dX4_onlyOne_33 : decode cX4_onlyOne 33 = .ok (.istore_n 2, 1) := by decide +kernel
theorem dX4_onlyOne_34 : decode cX4_onlyOne 34 = .ok (.iload_n 3, 1) := by decide +kernel
theorem dX4_onlyOne_35 : decode cX4_onlyOne 35 = .ok (.aload_n 0, 1) := by decide +kernel
theorem dX4_onlyOne_36 : decode cX4_onlyOne 36 = .ok (.iload 4, 2) := by decide +kernel
theorem dX4_onlyOne_38 : decode cX4_onlyOne 38 = .ok (.iload_n 1, 1) := by decide +kernel
theorem dX4_onlyOne_39 : decode cX4_onlyOne 39 = .ok (.invokevirtual 94, 3) := by decide +kernel
theorem dX4_onlyOne_42 : decode cX4_onlyOne 42 = .ok (.iadd, 1) := by decide +kernel
theorem dX4_onlyOne_43 : decode cX4_onlyOne 43 = .ok (.istore_n 3, 1) := by decide +kernel
theorem dX4_onlyOne_44 : decode cX4_onlyOne 44 = .ok (.iinc 4 1, 3) := by decide +kernel
theorem dX4_onlyOne_47 : decode cX4_onlyOne 47 = .ok (.goto (-39), 3) := by decide +kernel
theorem dX4_onlyOne_50 : decode cX4_onlyOne 50 = .ok (.iload_n 3, 1) := by decide +kernel
theorem dX4_onlyOne_51 : decode cX4_onlyOne 51 = .ok (.iconst 1, 1) := by decide +kernel
theorem dX4_onlyOne_52 : decode cX4_onlyOne 52 = .ok (.if_icmp .ne 7, 3) := by decide +kernel
theorem dX4_onlyOne_55 : decode cX4_onlyOne 55 = .ok (.iload_n 2, 1) := by decide +kernel
theorem dX4_onlyOne_56 : decode cX4_onlyOne 56 = .ok (.goto 5, 3) := by decide +kernel
theorem dX4_onlyOne_59 : decode cX4_onlyOne 59 = .ok (.bipush (-9), 2) := by decide +kernel
theorem dX4_onlyOne_61 : decode cX4_onlyOne 61 = .ok (.ireturn, 1) := by decide +kernel
theorem dX4_depth_0 : decode cX4_depth 0 = .ok (.iconst 1, 1) := by decide +kernel
theorem dX4_depth_1 : decode cX4_depth 1 = .ok (.istore_n 2, 1) := by decide +kernel
theorem dX4_depth_2 : decode cX4_depth 2 = .ok (.aload_n 0, 1) := by decide +kernel
theorem dX4_depth_3 : decode cX4_depth 3 = .ok (.iload_n 1, 1) := by decide +kernel
theorem dX4_depth_4 : decode cX4_depth 4 = .ok (.invokevirtual 97, 3) := by decide +kernel
theorem dX4_depth_7 : decode cX4_depth 7 = .ok (.istore_n 3, 1) := by decide +kernel
theorem dX4_depth_8 : decode cX4_depth 8 = .ok (.iload_n 3, 1) := by decide +kernel
theorem dX4_depth_9 : decode cX4_depth 9 = .ok (.bipush (-9), 2) := by decide +kernel
theorem dX4_depth_11 : decode cX4_depth 11 = .ok (.if_icmp .eq 37, 3) := by decide +kernel
theorem dX4_depth_14 : decode cX4_depth 14 = .ok (.aload_n 0, 1) := by decide +kernel
theorem dX4_depth_15 : decode cX4_depth 15 = .ok (.iload_n 3, 1) := by decide +kernel
theorem dX4_depth_16 : decode cX4_depth 16 = .ok (.invokevirtual 64, 3) := by decide +kernel
theorem dX4_depth_19 : decode cX4_depth 19 = .ok (.iconst 1, 1) := by decide +kernel
theorem dX4_depth_20 : decode cX4_depth 20 = .ok (.if_icmp .ne 28, 3) := by decide +kernel
theorem dX4_depth_23 : decode cX4_depth 23 = .ok (.aload_n 0, 1) := by decide +kernel
theorem dX4_depth_24 : decode cX4_depth 24 = .ok (.iload_n 3, 1) := by decide +kernel
theorem dX4_depth_25 : decode cX4_depth 25 = .ok (.invokevirtual 88, 3) := by decide +kernel
theorem dX4_depth_28 : decode cX4_depth 28 = .ok (.aload_n 0, 1) := by decide +kernel
theorem dX4_depth_29 : decode cX4_depth 29 = .ok (.iload_n 1, 1) := by decide +kernel
theorem dX4_depth_30 : decode cX4_depth 30 = .ok (.invokevirtual 88, 3) := by decide +kernel
theorem dX4_depth_33 : decode cX4_depth 33 = .ok (.if_icmp .ne 15, 3) := by decide +kernel
theorem dX4_depth_36 : decode cX4_depth 36 = .ok (.iinc 2 1, 3) := by decide +kernel
theorem dX4_depth_39 : decode cX4_depth 39 = .ok (.aload_n 0, 1) := by decide +kernel
theorem dX4_depth_40 : decode cX4_depth 40 = .ok (.iload_n 3, 1) := by decide +kernel
theorem dX4_depth_41 : decode cX4_depth 41 = .ok (.invokevirtual 97, 3) := by decide +kernel
theorem dX4_depth_44 : decode cX4_depth 44 = .ok (.istore_n 3, 1) := by decide +kernel
theorem dX4_depth_45 : decode cX4_depth 45 = .ok (.goto (-37), 3) := by decide +kernel
theorem dX4_depth_48 : decode cX4_depth 48 = .ok (.iload_n 2, 1) := by decide +kernel
theorem dX4_depth_49 : decode cX4_depth 49 = .ok (.ireturn, 1) := by decide +kernel
theorem dX4_isSafe_0 : decode cX4_isSafe 0 = .ok (.aload_n 0, 1) := by decide +kernel
theorem dX4_isSafe_1 : decode cX4_isSafe 1 = .ok (.iload_n 1, 1) := by decide +kernel
theorem dX4_isSafe_2 : decode cX4_isSafe 2 = .ok (.invokevirtual 100, 3) := by decide +kernel
theorem dX4_isSafe_5 : decode cX4_isSafe 5 = .ok (.ifCond .eq 21, 3) := by decide +kernel
theorem dX4_isSafe_8 : decode cX4_isSafe 8 = .ok (.aload_n 0, 1) := by decide +kernel
theorem dX4_isSafe_9 : decode cX4_isSafe 9 = .ok (.iload_n 1, 1) := by decide +kernel
theorem dX4_isSafe_10 : decode cX4_isSafe 10 = .ok (.invokevirtual 103, 3) := by decide +kernel
theorem dX4_isSafe_13 : decode cX4_isSafe 13 = .ok (.aload_n 0, 1) := by decide +kernel
theorem dX4_isSafe_14 : decode cX4_isSafe 14 = .ok (.getfield 16, 3) := by decide +kernel
theorem dX4_isSafe_17 : decode cX4_isSafe 17 = .ok (.iconst 0, 1) := by decide +kernel
theorem dX4_isSafe_18 : decode cX4_isSafe 18 = .ok (.iaload, 1) := by decide +kernel
theorem dX4_isSafe_19 : decode cX4_isSafe 19 = .ok (.if_icmp .lt 7, 3) := by decide +kernel
theorem dX4_isSafe_22 : decode cX4_isSafe 22 = .ok (.iconst 1, 1) := by decide +kernel
theorem dX4_isSafe_23 : decode cX4_isSafe 23 = .ok (.goto 4, 3) := by decide +kernel
theorem dX4_isSafe_26 : decode cX4_isSafe 26 = .ok (.iconst 0, 1) := by decide +kernel
theorem dX4_isSafe_27 : decode cX4_isSafe 27 = .ok (.ireturn, 1) := by decide +kernel
theorem dX4_backFrom_0 : decode cX4_backFrom 0 = .ok (.iconst 1, 1) := by decide +kernel
theorem dX4_backFrom_1 : decode cX4_backFrom 1 = .ok (.iload_n 1, 1) := by decide +kernel
theorem dX4_backFrom_2 : decode cX4_backFrom 2 = .ok (.ishl, 1) := by decide +kernel
theorem dX4_backFrom_3 : decode cX4_backFrom 3 = .ok (.istore_n 3, 1) := by decide +kernel
theorem dX4_backFrom_4 : decode cX4_backFrom 4 = .ok (.iload_n 1, 1) := by decide +kernel
theorem dX4_backFrom_5 : decode cX4_backFrom 5 = .ok (.istore 4, 2) := by decide +kernel
theorem dX4_backFrom_7 : decode cX4_backFrom 7 = .ok (.iload 4, 2) := by decide +kernel
theorem dX4_backFrom_9 : decode cX4_backFrom 9 = .ok (.ifCond .lt 83, 3) := by decide +kernel
theorem dX4_backFrom_12 : decode cX4_backFrom 12 = .ok (.iload_n 3, 1) := by decide +kernel
theorem dX4_backFrom_13 : decode cX4_backFrom 13 = .ok (.iload 4, 2) := by decide +kernel
theorem dX4_backFrom_15 : decode cX4_backFrom 15 = .ok (.invokestatic 84, 3) := by decide +kernel
theorem dX4_backFrom_18 : decode cX4_backFrom 18 = .ok (.ifCond .eq 68, 3) := by decide +kernel
theorem dX4_backFrom_21 : decode cX4_backFrom 21 = .ok (.aload_n 0, 1) := by decide +kernel
theorem dX4_backFrom_22 : decode cX4_backFrom 22 = .ok (.iload 4, 2) := by decide +kernel
theorem dX4_backFrom_24 : decode cX4_backFrom 24 = .ok (.invokevirtual 75, 3) := by decide +kernel
theorem dX4_backFrom_27 : decode cX4_backFrom 27 = .ok (.ifCond .eq 23, 3) := by decide +kernel
theorem dX4_backFrom_30 : decode cX4_backFrom 30 = .ok (.aload_n 0, 1) := by decide +kernel
theorem dX4_backFrom_31 : decode cX4_backFrom 31 = .ok (.iload 4, 2) := by decide +kernel
theorem dX4_backFrom_33 : decode cX4_backFrom 33 = .ok (.invokevirtual 64, 3) := by decide +kernel
theorem dX4_backFrom_36 : decode cX4_backFrom 36 = .ok (.iconst 1, 1) := by decide +kernel
theorem dX4_backFrom_37 : decode cX4_backFrom 37 = .ok (.if_icmp .ne 49, 3) := by decide +kernel
theorem dX4_backFrom_40 : decode cX4_backFrom 40 = .ok (.aload_n 0, 1) := by decide +kernel
theorem dX4_backFrom_41 : decode cX4_backFrom 41 = .ok (.iload 4, 2) := by decide +kernel
theorem dX4_backFrom_43 : decode cX4_backFrom 43 = .ok (.invokevirtual 88, 3) := by decide +kernel
theorem dX4_backFrom_46 : decode cX4_backFrom 46 = .ok (.iload_n 2, 1) := by decide +kernel
theorem dX4_backFrom_47 : decode cX4_backFrom 47 = .ok (.if_icmp .ne 39, 3) := by decide +kernel
theorem dX4_backFrom_50 : decode cX4_backFrom 50 = .ok (.iconst 0, 1) := by decide +kernel
theorem dX4_backFrom_51 : decode cX4_backFrom 51 = .ok (.istore 5, 2) := by decide +kernel
theorem dX4_backFrom_53 : decode cX4_backFrom 53 = .ok (.iload 5, 2) := by decide +kernel
theorem dX4_backFrom_55 : decode cX4_backFrom 55 = .ok (.aload_n 0, 1) := by decide +kernel
theorem dX4_backFrom_56 : decode cX4_backFrom 56 = .ok (.iload 4, 2) := by decide +kernel
theorem dX4_backFrom_58 : decode cX4_backFrom 58 = .ok (.invokevirtual 64, 3) := by decide +kernel
theorem dX4_backFrom_61 : decode cX4_backFrom 61 = .ok (.invokestatic 68, 3) := by decide +kernel
theorem dX4_backFrom_64 : decode cX4_backFrom 64 = .ok (.if_icmp .ge 22, 3) := by decide +kernel
theorem dX4_backFrom_67 : decode cX4_backFrom 67 = .ok (.iload_n 3, 1) := by decide +kernel
theorem dX4_backFrom_68 : decode cX4_backFrom 68 = .ok (.iconst 1, 1) := by decide +kernel
theorem dX4_backFrom_69 : decode cX4_backFrom 69 = .ok (.aload_n 0, 1) := by decide +kernel
theorem dX4_backFrom_70 : decode cX4_backFrom 70 = .ok (.iload 4, 2) := by decide +kernel
theorem dX4_backFrom_72 : decode cX4_backFrom 72 = .ok (.iload 5, 2) := by decide +kernel
theorem dX4_backFrom_74 : decode cX4_backFrom 74 = .ok (.invokevirtual 71, 3) := by decide +kernel
theorem dX4_backFrom_77 : decode cX4_backFrom 77 = .ok (.ishl, 1) := by decide +kernel
theorem dX4_backFrom_78 : decode cX4_backFrom 78 = .ok (.ior, 1) := by decide +kernel
theorem dX4_backFrom_79 : decode cX4_backFrom 79 = .ok (.istore_n 3, 1) := by decide +kernel
theorem dX4_backFrom_80 : decode cX4_backFrom 80 = .ok (.iinc 5 1, 3) := by decide +kernel
theorem dX4_backFrom_83 : decode cX4_backFrom 83 = .ok (.goto (-30), 3) := by decide +kernel
theorem dX4_backFrom_86 : decode cX4_backFrom 86 = .ok (.iinc 4 (-1), 3) := by decide +kernel
theorem dX4_backFrom_89 : decode cX4_backFrom 89 = .ok (.goto (-82), 3) := by decide +kernel
theorem dX4_backFrom_92 : decode cX4_backFrom 92 = .ok (.iload_n 3, 1) := by decide +kernel
theorem dX4_backFrom_93 : decode cX4_backFrom 93 = .ok (.ireturn, 1) := by decide +kernel
theorem dX4_isHeld_0 : decode cX4_isHeld 0 = .ok (.aload_n 0, 1) := by decide +kernel
theorem dX4_isHeld_1 : decode cX4_isHeld 1 = .ok (.iload_n 1, 1) := by decide +kernel
theorem dX4_isHeld_2 : decode cX4_isHeld 2 = .ok (.iconst 0, 1) := by decide +kernel
theorem dX4_isHeld_3 : decode cX4_isHeld 3 = .ok (.invokevirtual 71, 3) := by decide +kernel
theorem dX4_isHeld_6 : decode cX4_isHeld 6 = .ok (.istore_n 2, 1) := by decide +kernel
theorem dX4_isHeld_7 : decode cX4_isHeld 7 = .ok (.aload_n 0, 1) := by decide +kernel
theorem dX4_isHeld_8 : decode cX4_isHeld 8 = .ok (.iload_n 2, 1) := by decide +kernel
theorem dX4_isHeld_9 : decode cX4_isHeld 9 = .ok (.invokevirtual 64, 3) := by decide +kernel
theorem dX4_isHeld_12 : decode cX4_isHeld 12 = .ok (.iconst 5, 1) := by decide +kernel
theorem dX4_isHeld_13 : decode cX4_isHeld 13 = .ok (.if_icmp .ne 23, 3) := by decide +kernel
theorem dX4_isHeld_16 : decode cX4_isHeld 16 = .ok (.aload_n 0, 1) := by decide +kernel
theorem dX4_isHeld_17 : decode cX4_isHeld 17 = .ok (.aload_n 0, 1) := by decide +kernel
theorem dX4_isHeld_18 : decode cX4_isHeld 18 = .ok (.iload_n 2, 1) := by decide +kernel
theorem dX4_isHeld_19 : decode cX4_isHeld 19 = .ok (.iconst 0, 1) := by decide +kernel
theorem dX4_isHeld_20 : decode cX4_isHeld 20 = .ok (.invokevirtual 71, 3) := by decide +kernel
theorem dX4_isHeld_23 : decode cX4_isHeld 23 = .ok (.invokevirtual 106, 3) := by decide +kernel
theorem dX4_isHeld_26 : decode cX4_isHeld 26 = .ok (.iconst 1, 1) := by decide +kernel
theorem dX4_isHeld_27 : decode cX4_isHeld 27 = .ok (.aload_n 0, 1) := by decide +kernel
theorem dX4_isHeld_28 : decode cX4_isHeld 28 = .ok (.iload_n 1, 1) := by decide +kernel
theorem dX4_isHeld_29 : decode cX4_isHeld 29 = .ok (.invokevirtual 88, 3) := by decide +kernel
theorem dX4_isHeld_32 : decode cX4_isHeld 32 = .ok (.ishl, 1) := by decide +kernel
theorem dX4_isHeld_33 : decode cX4_isHeld 33 = .ok (.if_icmp .eq 5, 3) := by decide +kernel
theorem dX4_isHeld_36 : decode cX4_isHeld 36 = .ok (.iconst 0, 1) := by decide +kernel
theorem dX4_isHeld_37 : decode cX4_isHeld 37 = .ok (.ireturn, 1) := by decide +kernel
theorem dX4_isHeld_38 : decode cX4_isHeld 38 = .ok (.aload_n 0, 1) := by decide +kernel
theorem dX4_isHeld_39 : decode cX4_isHeld 39 = .ok (.iload_n 1, 1) := by decide +kernel
theorem dX4_isHeld_40 : decode cX4_isHeld 40 = .ok (.invokevirtual 91, 3) := by decide +kernel
theorem dX4_isHeld_43 : decode cX4_isHeld 43 = .ok (.istore_n 3, 1) := by decide +kernel
theorem dX4_isHeld_44 : decode cX4_isHeld 44 = .ok (.bipush (-9), 2) := by decide +kernel
theorem dX4_isHeld_46 : decode cX4_isHeld 46 = .ok (.istore 4, 2) := by decide +kernel
theorem dX4_isHeld_48 : decode cX4_isHeld 48 = .ok (.iconst 1, 1) := by decide +kernel
theorem dX4_isHeld_49 : decode cX4_isHeld 49 = .ok (.istore 5, 2) := by decide +kernel
theorem dX4_isHeld_51 : decode cX4_isHeld 51 = .ok (.iconst 0, 1) := by decide +kernel
theorem dX4_isHeld_52 : decode cX4_isHeld 52 = .ok (.istore 6, 2) := by decide +kernel
theorem dX4_isHeld_54 : decode cX4_isHeld 54 = .ok (.iload 6, 2) := by decide +kernel
theorem dX4_isHeld_56 : decode cX4_isHeld 56 = .ok (.aload_n 0, 1) := by decide +kernel
theorem dX4_isHeld_57 : decode cX4_isHeld 57 = .ok (.invokevirtual 52, 3) := by decide +kernel
theorem dX4_isHeld_60 : decode cX4_isHeld 60 = .ok (.if_icmp .ge 56, 3) := by decide +kernel
theorem dX4_isHeld_63 : decode cX4_isHeld 63 = .ok (.iload_n 3, 1) := by decide +kernel
theorem dX4_isHeld_64 : decode cX4_isHeld 64 = .ok (.iload 6, 2) := by decide +kernel
theorem dX4_isHeld_66 : decode cX4_isHeld 66 = .ok (.invokestatic 84, 3) := by decide +kernel
theorem dX4_isHeld_69 : decode cX4_isHeld 69 = .ok (.ifCond .eq 41, 3) := by decide +kernel
theorem dX4_isHeld_72 : decode cX4_isHeld 72 = .ok (.iload 5, 2) := by decide +kernel
theorem dX4_isHeld_74 : decode cX4_isHeld 74 = .ok (.ifCond .eq 25, 3) := by decide +kernel
theorem dX4_isHeld_77 : decode cX4_isHeld 77 = .ok (.iload 4, 2) := by decide +kernel
theorem dX4_isHeld_79 : decode cX4_isHeld 79 = .ok (.bipush (-9), 2) := by decide +kernel
theorem dX4_isHeld_81 : decode cX4_isHeld 81 = .ok (.if_icmp .eq 14, 3) := by decide +kernel
theorem dX4_isHeld_84 : decode cX4_isHeld 84 = .ok (.iload 4, 2) := by decide +kernel
theorem dX4_isHeld_86 : decode cX4_isHeld 86 = .ok (.aload_n 0, 1) := by decide +kernel
theorem dX4_isHeld_87 : decode cX4_isHeld 87 = .ok (.iload 6, 2) := by decide +kernel
theorem dX4_isHeld_89 : decode cX4_isHeld 89 = .ok (.invokevirtual 88, 3) := by decide +kernel
theorem dX4_isHeld_92 : decode cX4_isHeld 92 = .ok (.if_icmp .ne 7, 3) := by decide +kernel
theorem dX4_isHeld_95 : decode cX4_isHeld 95 = .ok (.iconst 1, 1) := by decide +kernel
theorem dX4_isHeld_96 : decode cX4_isHeld 96 = .ok (.goto 4, 3) := by decide +kernel
theorem dX4_isHeld_99 : decode cX4_isHeld 99 = .ok (.iconst 0, 1) := by decide +kernel
theorem dX4_isHeld_100 : decode cX4_isHeld 100 = .ok (.istore 5, 2) := by decide +kernel
theorem dX4_isHeld_102 : decode cX4_isHeld 102 = .ok (.aload_n 0, 1) := by decide +kernel
theorem dX4_isHeld_103 : decode cX4_isHeld 103 = .ok (.iload 6, 2) := by decide +kernel
theorem dX4_isHeld_105 : decode cX4_isHeld 105 = .ok (.invokevirtual 88, 3) := by decide +kernel
theorem dX4_isHeld_108 : decode cX4_isHeld 108 = .ok (.istore 4, 2) := by decide +kernel
theorem dX4_isHeld_110 : decode cX4_isHeld 110 = .ok (.iinc 6 1, 3) := by decide +kernel
theorem dX4_isHeld_113 : decode cX4_isHeld 113 = .ok (.goto (-59), 3) := by decide +kernel
theorem dX4_isHeld_116 : decode cX4_isHeld 116 = .ok (.aload_n 0, 1) := by decide +kernel
theorem dX4_isHeld_117 : decode cX4_isHeld 117 = .ok (.aload_n 0, 1) := by decide +kernel
theorem dX4_isHeld_118 : decode cX4_isHeld 118 = .ok (.iload_n 2, 1) := by decide +kernel
theorem dX4_isHeld_119 : decode cX4_isHeld 119 = .ok (.iconst 0, 1) := by decide +kernel
theorem dX4_isHeld_120 : decode cX4_isHeld 120 = .ok (.invokevirtual 71, 3) := by decide +kernel
theorem dX4_isHeld_123 : decode cX4_isHeld 123 = .ok (.aload_n 0, 1) := by decide +kernel
theorem dX4_isHeld_124 : decode cX4_isHeld 124 = .ok (.iload_n 1, 1) := by decide +kernel
theorem dX4_isHeld_125 : decode cX4_isHeld 125 = .ok (.invokevirtual 88, 3) := by decide +kernel
theorem dX4_isHeld_128 : decode cX4_isHeld 128 = .ok (.invokevirtual 109, 3) := by decide +kernel
theorem dX4_isHeld_131 : decode cX4_isHeld 131 = .ok (.istore 6, 2) := by decide +kernel
theorem dX4_isHeld_133 : decode cX4_isHeld 133 = .ok (.iconst 0, 1) := by decide +kernel
theorem dX4_isHeld_134 : decode cX4_isHeld 134 = .ok (.istore 7, 2) := by decide +kernel
theorem dX4_isHeld_136 : decode cX4_isHeld 136 = .ok (.iconst 0, 1) := by decide +kernel
theorem dX4_isHeld_137 : decode cX4_isHeld 137 = .ok (.istore 8, 2) := by decide +kernel
theorem dX4_isHeld_139 : decode cX4_isHeld 139 = .ok (.iload 8, 2) := by decide +kernel
theorem dX4_isHeld_141 : decode cX4_isHeld 141 = .ok (.aload_n 0, 1) := by decide +kernel
theorem dX4_isHeld_142 : decode cX4_isHeld 142 = .ok (.invokevirtual 52, 3) := by decide +kernel
theorem dX4_isHeld_145 : decode cX4_isHeld 145 = .ok (.if_icmp .ge 80, 3) := by decide +kernel
theorem dX4_isHeld_148 : decode cX4_isHeld 148 = .ok (.iload 7, 2) := by decide +kernel
theorem dX4_isHeld_150 : decode cX4_isHeld 150 = .ok (.ifCond .ne 62, 3) := by decide +kernel
theorem dX4_isHeld_153 : decode cX4_isHeld 153 = .ok (.iload 6, 2) := by decide +kernel
theorem dX4_isHeld_155 : decode cX4_isHeld 155 = .ok (.iload 8, 2) := by decide +kernel
theorem dX4_isHeld_157 : decode cX4_isHeld 157 = .ok (.invokestatic 84, 3) := by decide +kernel
theorem dX4_isHeld_160 : decode cX4_isHeld 160 = .ok (.ifCond .eq 56, 3) := by decide +kernel
theorem dX4_isHeld_163 : decode cX4_isHeld 163 = .ok (.aload_n 0, 1) := by decide +kernel
theorem dX4_isHeld_164 : decode cX4_isHeld 164 = .ok (.iload 8, 2) := by decide +kernel
theorem dX4_isHeld_166 : decode cX4_isHeld 166 = .ok (.invokevirtual 64, 3) := by decide +kernel
theorem dX4_isHeld_169 : decode cX4_isHeld 169 = .ok (.iconst 1, 1) := by decide +kernel
theorem dX4_isHeld_170 : decode cX4_isHeld 170 = .ok (.if_icmp .ne 46, 3) := by decide +kernel
theorem dX4_isHeld_173 : decode cX4_isHeld 173 = .ok (.aload_n 0, 1) := by decide +kernel
theorem dX4_isHeld_174 : decode cX4_isHeld 174 = .ok (.iload 8, 2) := by decide +kernel
theorem dX4_isHeld_176 : decode cX4_isHeld 176 = .ok (.invokevirtual 88, 3) := by decide +kernel
theorem dX4_isHeld_179 : decode cX4_isHeld 179 = .ok (.aload_n 0, 1) := by decide +kernel
theorem dX4_isHeld_180 : decode cX4_isHeld 180 = .ok (.iload_n 1, 1) := by decide +kernel
theorem dX4_isHeld_181 : decode cX4_isHeld 181 = .ok (.invokevirtual 88, 3) := by decide +kernel
theorem dX4_isHeld_184 : decode cX4_isHeld 184 = .ok (.if_icmp .ne 32, 3) := by decide +kernel
theorem dX4_isHeld_187 : decode cX4_isHeld 187 = .ok (.aload_n 0, 1) := by decide +kernel
theorem dX4_isHeld_188 : decode cX4_isHeld 188 = .ok (.iload 8, 2) := by decide +kernel
theorem dX4_isHeld_190 : decode cX4_isHeld 190 = .ok (.invokevirtual 112, 3) := by decide +kernel
theorem dX4_isHeld_193 : decode cX4_isHeld 193 = .ok (.ifCond .eq 23, 3) := by decide +kernel
theorem dX4_isHeld_196 : decode cX4_isHeld 196 = .ok (.aload_n 0, 1) := by decide +kernel
theorem dX4_isHeld_197 : decode cX4_isHeld 197 = .ok (.aload_n 0, 1) := by decide +kernel
theorem dX4_isHeld_198 : decode cX4_isHeld 198 = .ok (.iload 8, 2) := by decide +kernel
theorem dX4_isHeld_200 : decode cX4_isHeld 200 = .ok (.iconst 0, 1) := by decide +kernel
theorem dX4_isHeld_201 : decode cX4_isHeld 201 = .ok (.invokevirtual 71, 3) := by decide +kernel
theorem dX4_isHeld_204 : decode cX4_isHeld 204 = .ok (.invokevirtual 88, 3) := by decide +kernel
theorem dX4_isHeld_207 : decode cX4_isHeld 207 = .ok (.iload 4, 2) := by decide +kernel
theorem dX4_isHeld_209 : decode cX4_isHeld 209 = .ok (.if_icmp .ne 7, 3) := by decide +kernel
theorem dX4_isHeld_212 : decode cX4_isHeld 212 = .ok (.iconst 1, 1) := by decide +kernel
theorem dX4_isHeld_213 : decode cX4_isHeld 213 = .ok (.goto 4, 3) := by decide +kernel
theorem dX4_isHeld_216 : decode cX4_isHeld 216 = .ok (.iconst 0, 1) := by decide +kernel
theorem dX4_isHeld_217 : decode cX4_isHeld 217 = .ok (.istore 7, 2) := by decide +kernel
theorem dX4_isHeld_219 : decode cX4_isHeld 219 = .ok (.iinc 8 1, 3) := by decide +kernel
theorem dX4_isHeld_222 : decode cX4_isHeld 222 = .ok (.goto (-83), 3) := by decide +kernel
theorem dX4_isHeld_225 : decode cX4_isHeld 225 = .ok (.iload 7, 2) := by decide +kernel
theorem dX4_isHeld_227 : decode cX4_isHeld 227 = .ok (.ifCond .eq 12, 3) := by decide +kernel
theorem dX4_isHeld_230 : decode cX4_isHeld 230 = .ok (.iload 5, 2) := by decide +kernel
theorem dX4_isHeld_232 : decode cX4_isHeld 232 = .ok (.ifCond .eq 7, 3) := by decide +kernel
theorem dX4_isHeld_235 : decode cX4_isHeld 235 = .ok (.iconst 1, 1) := by decide +kernel
theorem dX4_isHeld_236 : decode cX4_isHeld 236 = .ok (.goto 4, 3) := by decide +kernel
theorem dX4_isHeld_239 : decode cX4_isHeld 239 = .ok (.iconst 0, 1) := by decide +kernel
theorem dX4_isHeld_240 : decode cX4_isHeld 240 = .ok (.ireturn, 1) := by decide +kernel
theorem dX4_kindOf_0 : decode cX4_kindOf 0 = .ok (.aload_n 0, 1) := by decide +kernel
theorem dX4_kindOf_1 : decode cX4_kindOf 1 = .ok (.iload_n 1, 1) := by decide +kernel
theorem dX4_kindOf_2 : decode cX4_kindOf 2 = .ok (.invokevirtual 91, 3) := by decide +kernel
theorem dX4_kindOf_5 : decode cX4_kindOf 5 = .ok (.ifCond .ne 6, 3) := by decide +kernel
theorem dX4_kindOf_8 : decode cX4_kindOf 8 = .ok (.bipush (-9), 2) := by decide +kernel
theorem dX4_kindOf_10 : decode cX4_kindOf 10 = .ok (.ireturn, 1) := by decide +kernel
theorem dX4_kindOf_11 : decode cX4_kindOf 11 = .ok (.aload_n 0, 1) := by decide +kernel
theorem dX4_kindOf_12 : decode cX4_kindOf 12 = .ok (.iload_n 1, 1) := by decide +kernel
theorem dX4_kindOf_13 : decode cX4_kindOf 13 = .ok (.invokevirtual 100, 3) := by decide +kernel
theorem dX4_kindOf_16 : decode cX4_kindOf 16 = .ok (.ifCond .eq 17, 3) := by decide +kernel
theorem dX4_kindOf_19 : decode cX4_kindOf 19 = .ok (.aload_n 0, 1) := by decide +kernel
theorem dX4_kindOf_20 : decode cX4_kindOf 20 = .ok (.iload_n 1, 1) := by decide +kernel
theorem dX4_kindOf_21 : decode cX4_kindOf 21 = .ok (.invokevirtual 112, 3) := by decide +kernel
theorem dX4_kindOf_24 : decode cX4_kindOf 24 = .ok (.ifCond .eq 7, 3) := by decide +kernel
theorem dX4_kindOf_27 : decode cX4_kindOf 27 = .ok (.iconst 0, 1) := by decide +kernel
theorem dX4_kindOf_28 : decode cX4_kindOf 28 = .ok (.goto 4, 3) := by decide +kernel
theorem dX4_kindOf_31 : decode cX4_kindOf 31 = .ok (.iconst 1, 1) := by decide +kernel
theorem dX4_kindOf_32 : decode cX4_kindOf 32 = .ok (.ireturn, 1) := by decide +kernel
theorem dX4_kindOf_33 : decode cX4_kindOf 33 = .ok (.aload_n 0, 1) := by decide +kernel
theorem dX4_kindOf_34 : decode cX4_kindOf 34 = .ok (.iload_n 1, 1) := by decide +kernel
theorem dX4_kindOf_35 : decode cX4_kindOf 35 = .ok (.invokevirtual 115, 3) := by decide +kernel
theorem dX4_kindOf_38 : decode cX4_kindOf 38 = .ok (.ifCond .eq 7, 3) := by decide +kernel
theorem dX4_kindOf_41 : decode cX4_kindOf 41 = .ok (.iconst 2, 1) := by decide +kernel
theorem dX4_kindOf_42 : decode cX4_kindOf 42 = .ok (.goto 4, 3) := by decide +kernel
theorem dX4_kindOf_45 : decode cX4_kindOf 45 = .ok (.iconst 3, 1) := by decide +kernel
theorem dX4_kindOf_46 : decode cX4_kindOf 46 = .ok (.ireturn, 1) := by decide +kernel
theorem dX4_kindAt_0 : decode cX4_kindAt 0 = .ok (.aload_n 0, 1) := by decide +kernel
theorem dX4_kindAt_1 : decode cX4_kindAt 1 = .ok (.iload_n 1, 1) := by decide +kernel
theorem dX4_kindAt_2 : decode cX4_kindAt 2 = .ok (.invokevirtual 64, 3) := by decide +kernel
theorem dX4_kindAt_5 : decode cX4_kindAt 5 = .ok (.iconst 1, 1) := by decide +kernel
theorem dX4_kindAt_6 : decode cX4_kindAt 6 = .ok (.if_icmp .ne 11, 3) := by decide +kernel
theorem dX4_kindAt_9 : decode cX4_kindAt 9 = .ok (.aload_n 0, 1) := by decide +kernel
theorem dX4_kindAt_10 : decode cX4_kindAt 10 = .ok (.iload_n 1, 1) := by decide +kernel
theorem dX4_kindAt_11 : decode cX4_kindAt 11 = .ok (.invokevirtual 118, 3) := by decide +kernel
theorem dX4_kindAt_14 : decode cX4_kindAt 14 = .ok (.goto 5, 3) := by decide +kernel
theorem dX4_kindAt_17 : decode cX4_kindAt 17 = .ok (.bipush (-9), 2) := by decide +kernel
theorem dX4_kindAt_19 : decode cX4_kindAt 19 = .ok (.ireturn, 1) := by decide +kernel
theorem dX4_reached_0 : decode cX4_reached 0 = .ok (.iconst 1, 1) := by decide +kernel
theorem dX4_reached_1 : decode cX4_reached 1 = .ok (.iload_n 1, 1) := by decide +kernel
theorem dX4_reached_2 : decode cX4_reached 2 = .ok (.ishl, 1) := by decide +kernel
theorem dX4_reached_3 : decode cX4_reached 3 = .ok (.istore_n 2, 1) := by decide +kernel
theorem dX4_reached_4 : decode cX4_reached 4 = .ok (.iload_n 1, 1) := by decide +kernel
theorem dX4_reached_5 : decode cX4_reached 5 = .ok (.iconst 1, 1) := by decide +kernel
theorem dX4_reached_6 : decode cX4_reached 6 = .ok (.iadd, 1) := by decide +kernel
theorem dX4_reached_7 : decode cX4_reached 7 = .ok (.istore_n 3, 1) := by decide +kernel
theorem dX4_reached_8 : decode cX4_reached 8 = .ok (.iload_n 3, 1) := by decide +kernel
theorem dX4_reached_9 : decode cX4_reached 9 = .ok (.aload_n 0, 1) := by decide +kernel
theorem dX4_reached_10 : decode cX4_reached 10 = .ok (.invokevirtual 52, 3) := by decide +kernel
theorem dX4_reached_13 : decode cX4_reached 13 = .ok (.if_icmp .ge 97, 3) := by decide +kernel
theorem dX4_reached_16 : decode cX4_reached 16 = .ok (.aload_n 0, 1) := by decide +kernel
theorem dX4_reached_17 : decode cX4_reached 17 = .ok (.iload_n 3, 1) := by decide +kernel
theorem dX4_reached_18 : decode cX4_reached 18 = .ok (.invokevirtual 75, 3) := by decide +kernel
theorem dX4_reached_21 : decode cX4_reached 21 = .ok (.ifCond .eq 25, 3) := by decide +kernel
theorem dX4_reached_24 : decode cX4_reached 24 = .ok (.aload_n 0, 1) := by decide +kernel
theorem dX4_reached_25 : decode cX4_reached 25 = .ok (.iload_n 3, 1) := by decide +kernel
theorem dX4_reached_26 : decode cX4_reached 26 = .ok (.invokevirtual 64, 3) := by decide +kernel
theorem dX4_reached_29 : decode cX4_reached 29 = .ok (.iconst 1, 1) := by decide +kernel
theorem dX4_reached_30 : decode cX4_reached 30 = .ok (.if_icmp .ne 20, 3) := by decide +kernel
theorem dX4_reached_33 : decode cX4_reached 33 = .ok (.aload_n 0, 1) := by decide +kernel
theorem dX4_reached_34 : decode cX4_reached 34 = .ok (.iload_n 3, 1) := by decide +kernel
theorem dX4_reached_35 : decode cX4_reached 35 = .ok (.invokevirtual 88, 3) := by decide +kernel
theorem dX4_reached_38 : decode cX4_reached 38 = .ok (.aload_n 0, 1) := by decide +kernel
theorem dX4_reached_39 : decode cX4_reached 39 = .ok (.iload_n 1, 1) := by decide +kernel
theorem dX4_reached_40 : decode cX4_reached 40 = .ok (.invokevirtual 88, 3) := by decide +kernel
theorem dX4_reached_43 : decode cX4_reached 43 = .ok (.if_icmp .ne 7, 3) := by decide +kernel
theorem dX4_reached_46 : decode cX4_reached 46 = .ok (.iconst 1, 1) := by decide +kernel
theorem dX4_reached_47 : decode cX4_reached 47 = .ok (.goto 4, 3) := by decide +kernel
theorem dX4_reached_50 : decode cX4_reached 50 = .ok (.iconst 0, 1) := by decide +kernel
theorem dX4_reached_51 : decode cX4_reached 51 = .ok (.istore 4, 2) := by decide +kernel
theorem dX4_reached_53 : decode cX4_reached 53 = .ok (.iconst 0, 1) := by decide +kernel
theorem dX4_reached_54 : decode cX4_reached 54 = .ok (.istore 5, 2) := by decide +kernel
theorem dX4_reached_56 : decode cX4_reached 56 = .ok (.iload 5, 2) := by decide +kernel
theorem dX4_reached_58 : decode cX4_reached 58 = .ok (.aload_n 0, 1) := by decide +kernel
theorem dX4_reached_59 : decode cX4_reached 59 = .ok (.iload_n 3, 1) := by decide +kernel
theorem dX4_reached_60 : decode cX4_reached 60 = .ok (.invokevirtual 64, 3) := by decide +kernel
theorem dX4_reached_63 : decode cX4_reached 63 = .ok (.invokestatic 68, 3) := by decide +kernel
theorem dX4_reached_66 : decode cX4_reached 66 = .ok (.if_icmp .ge 38, 3) := by decide +kernel
theorem dX4_reached_69 : decode cX4_reached 69 = .ok (.iload 4, 2) := by decide +kernel
theorem dX4_reached_71 : decode cX4_reached 71 = .ok (.ifCond .eq 33, 3) := by decide +kernel
theorem dX4_reached_74 : decode cX4_reached 74 = .ok (.iload_n 2, 1) := by decide +kernel
theorem dX4_reached_75 : decode cX4_reached 75 = .ok (.iload_n 2, 1) := by decide +kernel
theorem dX4_reached_76 : decode cX4_reached 76 = .ok (.aload_n 0, 1) := by decide +kernel
theorem dX4_reached_77 : decode cX4_reached 77 = .ok (.iload_n 3, 1) := by decide +kernel
theorem dX4_reached_78 : decode cX4_reached 78 = .ok (.iload 5, 2) := by decide +kernel
theorem dX4_reached_80 : decode cX4_reached 80 = .ok (.invokevirtual 71, 3) := by decide +kernel
theorem dX4_reached_83 : decode cX4_reached 83 = .ok (.invokestatic 84, 3) := by decide +kernel
theorem dX4_reached_86 : decode cX4_reached 86 = .ok (.ifCond .eq 9, 3) := by decide +kernel
theorem dX4_reached_89 : decode cX4_reached 89 = .ok (.iconst 1, 1) := by decide +kernel
theorem dX4_reached_90 : decode cX4_reached 90 = .ok (.iload_n 3, 1) := by decide +kernel
theorem dX4_reached_91 : decode cX4_reached 91 = .ok (.ishl, 1) := by decide +kernel
theorem dX4_reached_92 : decode cX4_reached 92 = .ok (.goto 4, 3) := by decide +kernel
theorem dX4_reached_95 : decode cX4_reached 95 = .ok (.iconst 0, 1) := by decide +kernel
theorem dX4_reached_96 : decode cX4_reached 96 = .ok (.ior, 1) := by decide +kernel
theorem dX4_reached_97 : decode cX4_reached 97 = .ok (.istore_n 2, 1) := by decide +kernel
theorem dX4_reached_98 : decode cX4_reached 98 = .ok (.iinc 5 1, 3) := by decide +kernel
theorem dX4_reached_101 : decode cX4_reached 101 = .ok (.goto (-45), 3) := by decide +kernel
theorem dX4_reached_104 : decode cX4_reached 104 = .ok (.iinc 3 1, 3) := by decide +kernel
theorem dX4_reached_107 : decode cX4_reached 107 = .ok (.goto (-99), 3) := by decide +kernel
theorem dX4_reached_110 : decode cX4_reached 110 = .ok (.iload_n 2, 1) := by decide +kernel
theorem dX4_reached_111 : decode cX4_reached 111 = .ok (.ireturn, 1) := by decide +kernel
theorem dX4_areMarked_0 : decode cX4_areMarked 0 = .ok (.iconst 0, 1) := by decide +kernel
theorem dX4_areMarked_1 : decode cX4_areMarked 1 = .ok (.istore_n 3, 1) := by decide +kernel
theorem dX4_areMarked_2 : decode cX4_areMarked 2 = .ok (.iconst 0, 1) := by decide +kernel
theorem dX4_areMarked_3 : decode cX4_areMarked 3 = .ok (.istore 4, 2) := by decide +kernel
theorem dX4_areMarked_5 : decode cX4_areMarked 5 = .ok (.iload 4, 2) := by decide +kernel
theorem dX4_areMarked_7 : decode cX4_areMarked 7 = .ok (.aload_n 0, 1) := by decide +kernel
theorem dX4_areMarked_8 : decode cX4_areMarked 8 = .ok (.getfield 7, 3) := by decide +kernel
theorem dX4_areMarked_11 : decode cX4_areMarked 11 = .ok (.bipush 96, 2) := by decide +kernel
theorem dX4_areMarked_13 : decode cX4_areMarked 13 = .ok (.iaload, 1) := by decide +kernel
theorem dX4_areMarked_14 : decode cX4_areMarked 14 = .ok (.if_icmp .ge 73, 3) := by decide +kernel
theorem dX4_areMarked_17 : decode cX4_areMarked 17 = .ok (.aload_n 0, 1) := by decide +kernel
theorem dX4_areMarked_18 : decode cX4_areMarked 18 = .ok (.getfield 7, 3) := by decide +kernel
theorem dX4_areMarked_21 : decode cX4_areMarked 21 = .ok (.bipush 80, 2) := by decide +kernel
theorem dX4_areMarked_23 : decode cX4_areMarked 23 = .ok (.iconst 2, 1) := by decide +kernel
theorem dX4_areMarked_24 : decode cX4_areMarked 24 = .ok (.iload 4, 2) := by decide +kernel
theorem dX4_areMarked_26 : decode cX4_areMarked 26 = .ok (.imul, 1) := by decide +kernel
theorem dX4_areMarked_27 : decode cX4_areMarked 27 = .ok (.iadd, 1) := by decide +kernel
theorem dX4_areMarked_28 : decode cX4_areMarked 28 = .ok (.iaload, 1) := by decide +kernel
theorem dX4_areMarked_29 : decode cX4_areMarked 29 = .ok (.istore 5, 2) := by decide +kernel
theorem dX4_areMarked_31 : decode cX4_areMarked 31 = .ok (.aload_n 0, 1) := by decide +kernel
theorem dX4_areMarked_32 : decode cX4_areMarked 32 = .ok (.getfield 7, 3) := by decide +kernel
theorem dX4_areMarked_35 : decode cX4_areMarked 35 = .ok (.bipush 80, 2) := by decide +kernel
theorem dX4_areMarked_37 : decode cX4_areMarked 37 = .ok (.iconst 2, 1) := by decide +kernel
theorem dX4_areMarked_38 : decode cX4_areMarked 38 = .ok (.iload 4, 2) := by decide +kernel
theorem dX4_areMarked_40 : decode cX4_areMarked 40 = .ok (.imul, 1) := by decide +kernel
theorem dX4_areMarked_41 : decode cX4_areMarked 41 = .ok (.iadd, 1) := by decide +kernel
theorem dX4_areMarked_42 : decode cX4_areMarked 42 = .ok (.iconst 1, 1) := by decide +kernel
theorem dX4_areMarked_43 : decode cX4_areMarked 43 = .ok (.iadd, 1) := by decide +kernel
theorem dX4_areMarked_44 : decode cX4_areMarked 44 = .ok (.iaload, 1) := by decide +kernel
theorem dX4_areMarked_45 : decode cX4_areMarked 45 = .ok (.istore 6, 2) := by decide +kernel
theorem dX4_areMarked_47 : decode cX4_areMarked 47 = .ok (.iload_n 3, 1) := by decide +kernel
theorem dX4_areMarked_48 : decode cX4_areMarked 48 = .ok (.ifCond .ne 27, 3) := by decide +kernel
theorem dX4_areMarked_51 : decode cX4_areMarked 51 = .ok (.iload 5, 2) := by decide +kernel
theorem dX4_areMarked_53 : decode cX4_areMarked 53 = .ok (.iload_n 1, 1) := by decide +kernel
theorem dX4_areMarked_54 : decode cX4_areMarked 54 = .ok (.if_icmp .ne 9, 3) := by decide +kernel
theorem dX4_areMarked_57 : decode cX4_areMarked 57 = .ok (.iload 6, 2) := by decide +kernel
theorem dX4_areMarked_59 : decode cX4_areMarked 59 = .ok (.iload_n 2, 1) := by decide +kernel
theorem dX4_areMarked_60 : decode cX4_areMarked 60 = .ok (.if_icmp .eq 15, 3) := by decide +kernel
theorem dX4_areMarked_63 : decode cX4_areMarked 63 = .ok (.iload 5, 2) := by decide +kernel
theorem dX4_areMarked_65 : decode cX4_areMarked 65 = .ok (.iload_n 2, 1) := by decide +kernel
theorem dX4_areMarked_66 : decode cX4_areMarked 66 = .ok (.if_icmp .ne 13, 3) := by decide +kernel
theorem dX4_areMarked_69 : decode cX4_areMarked 69 = .ok (.iload 6, 2) := by decide +kernel
theorem dX4_areMarked_71 : decode cX4_areMarked 71 = .ok (.iload_n 1, 1) := by decide +kernel
theorem dX4_areMarked_72 : decode cX4_areMarked 72 = .ok (.if_icmp .ne 7, 3) := by decide +kernel
theorem dX4_areMarked_75 : decode cX4_areMarked 75 = .ok (.iconst 1, 1) := by decide +kernel
theorem dX4_areMarked_76 : decode cX4_areMarked 76 = .ok (.goto 4, 3) := by decide +kernel
theorem dX4_areMarked_79 : decode cX4_areMarked 79 = .ok (.iconst 0, 1) := by decide +kernel
theorem dX4_areMarked_80 : decode cX4_areMarked 80 = .ok (.istore_n 3, 1) := by decide +kernel
theorem dX4_areMarked_81 : decode cX4_areMarked 81 = .ok (.iinc 4 1, 3) := by decide +kernel
theorem dX4_areMarked_84 : decode cX4_areMarked 84 = .ok (.goto (-79), 3) := by decide +kernel
theorem dX4_areMarked_87 : decode cX4_areMarked 87 = .ok (.iload_n 3, 1) := by decide +kernel
theorem dX4_areMarked_88 : decode cX4_areMarked 88 = .ok (.ireturn, 1) := by decide +kernel
theorem dX4_areApart_0 : decode cX4_areApart 0 = .ok (.aload_n 0, 1) := by decide +kernel
theorem dX4_areApart_1 : decode cX4_areApart 1 = .ok (.iload_n 1, 1) := by decide +kernel
theorem dX4_areApart_2 : decode cX4_areApart 2 = .ok (.iconst 0, 1) := by decide +kernel
theorem dX4_areApart_3 : decode cX4_areApart 3 = .ok (.invokevirtual 71, 3) := by decide +kernel
theorem dX4_areApart_6 : decode cX4_areApart 6 = .ok (.istore_n 3, 1) := by decide +kernel
theorem dX4_areApart_7 : decode cX4_areApart 7 = .ok (.aload_n 0, 1) := by decide +kernel
theorem dX4_areApart_8 : decode cX4_areApart 8 = .ok (.iload_n 2, 1) := by decide +kernel
theorem dX4_areApart_9 : decode cX4_areApart 9 = .ok (.iconst 0, 1) := by decide +kernel
theorem dX4_areApart_10 : decode cX4_areApart 10 = .ok (.invokevirtual 71, 3) := by decide +kernel
theorem dX4_areApart_13 : decode cX4_areApart 13 = .ok (.istore 4, 2) := by decide +kernel
theorem dX4_areApart_15 : decode cX4_areApart 15 = .ok (.aload_n 0, 1) := by decide +kernel
theorem dX4_areApart_16 : decode cX4_areApart 16 = .ok (.iload_n 1, 1) := by decide +kernel
theorem dX4_areApart_17 : decode cX4_areApart 17 = .ok (.invokevirtual 88, 3) := by decide +kernel
theorem dX4_areApart_20 : decode cX4_areApart 20 = .ok (.aload_n 0, 1) := by decide +kernel
theorem dX4_areApart_21 : decode cX4_areApart 21 = .ok (.iload_n 2, 1) := by decide +kernel
theorem dX4_areApart_22 : decode cX4_areApart 22 = .ok (.invokevirtual 88, 3) := by decide +kernel
theorem dX4_areApart_25 : decode cX4_areApart 25 = .ok (.if_icmp .ne 53, 3) := by decide +kernel
theorem dX4_areApart_28 : decode cX4_areApart 28 = .ok (.aload_n 0, 1) := by decide +kernel
theorem dX4_areApart_29 : decode cX4_areApart 29 = .ok (.iload_n 1, 1) := by decide +kernel
theorem dX4_areApart_30 : decode cX4_areApart 30 = .ok (.invokevirtual 100, 3) := by decide +kernel
theorem dX4_areApart_33 : decode cX4_areApart 33 = .ok (.ifCond .eq 45, 3) := by decide +kernel
theorem dX4_areApart_36 : decode cX4_areApart 36 = .ok (.aload_n 0, 1) := by decide +kernel
theorem dX4_areApart_37 : decode cX4_areApart 37 = .ok (.iload_n 2, 1) := by decide +kernel
theorem dX4_areApart_38 : decode cX4_areApart 38 = .ok (.invokevirtual 100, 3) := by decide +kernel
theorem dX4_areApart_41 : decode cX4_areApart 41 = .ok (.ifCond .eq 37, 3) := by decide +kernel
theorem dX4_areApart_44 : decode cX4_areApart 44 = .ok (.iload_n 3, 1) := by decide +kernel
theorem dX4_areApart_45 : decode cX4_areApart 45 = .ok (.iload 4, 2) := by decide +kernel
theorem dX4_areApart_47 : decode cX4_areApart 47 = .ok (.if_icmp .eq 31, 3) := by decide +kernel
theorem dX4_areApart_50 : decode cX4_areApart 50 = .ok (.aload_n 0, 1) := by decide +kernel
theorem dX4_areApart_51 : decode cX4_areApart 51 = .ok (.iload_n 3, 1) := by decide +kernel
theorem dX4_areApart_52 : decode cX4_areApart 52 = .ok (.invokevirtual 88, 3) := by decide +kernel
theorem dX4_areApart_55 : decode cX4_areApart 55 = .ok (.aload_n 0, 1) := by decide +kernel
theorem dX4_areApart_56 : decode cX4_areApart 56 = .ok (.iload 4, 2) := by decide +kernel
theorem dX4_areApart_58 : decode cX4_areApart 58 = .ok (.invokevirtual 88, 3) := by decide +kernel
theorem dX4_areApart_61 : decode cX4_areApart 61 = .ok (.if_icmp .ne 17, 3) := by decide +kernel
theorem dX4_areApart_64 : decode cX4_areApart 64 = .ok (.aload_n 0, 1) := by decide +kernel
theorem dX4_areApart_65 : decode cX4_areApart 65 = .ok (.iload_n 3, 1) := by decide +kernel
theorem dX4_areApart_66 : decode cX4_areApart 66 = .ok (.iload 4, 2) := by decide +kernel
theorem dX4_areApart_68 : decode cX4_areApart 68 = .ok (.invokevirtual 121, 3) := by decide +kernel
theorem dX4_areApart_71 : decode cX4_areApart 71 = .ok (.ifCond .ne 7, 3) := by decide +kernel
theorem dX4_areApart_74 : decode cX4_areApart 74 = .ok (.iconst 1, 1) := by decide +kernel
theorem dX4_areApart_75 : decode cX4_areApart 75 = .ok (.goto 4, 3) := by decide +kernel
theorem dX4_areApart_78 : decode cX4_areApart 78 = .ok (.iconst 0, 1) := by decide +kernel
theorem dX4_areApart_79 : decode cX4_areApart 79 = .ok (.ireturn, 1) := by decide +kernel
theorem dX4_lowest_0 : decode cX4_lowest 0 = .ok (.iconst 0, 1) := by decide +kernel
theorem dX4_lowest_1 : decode cX4_lowest 1 = .ok (.istore_n 1, 1) := by decide +kernel
theorem dX4_lowest_2 : decode cX4_lowest 2 = .ok (.iload_n 0, 1) := by decide +kernel
theorem dX4_lowest_3 : decode cX4_lowest 3 = .ok (.iload_n 1, 1) := by decide +kernel
theorem dX4_lowest_4 : decode cX4_lowest 4 = .ok (.invokestatic 84, 3) := by decide +kernel
theorem dX4_lowest_7 : decode cX4_lowest 7 = .ok (.ifCond .ne 9, 3) := by decide +kernel
theorem dX4_lowest_10 : decode cX4_lowest 10 = .ok (.iinc 1 1, 3) := by decide +kernel
theorem dX4_lowest_13 : decode cX4_lowest 13 = .ok (.goto (-11), 3) := by decide +kernel
theorem dX4_lowest_16 : decode cX4_lowest 16 = .ok (.iload_n 1, 1) := by decide +kernel
theorem dX4_lowest_17 : decode cX4_lowest 17 = .ok (.ireturn, 1) := by decide +kernel
theorem dX4_joinAt_0 : decode cX4_joinAt 0 = .ok (.iconst 0, 1) := by decide +kernel
theorem dX4_joinAt_1 : decode cX4_joinAt 1 = .ok (.istore_n 3, 1) := by decide +kernel
theorem dX4_joinAt_2 : decode cX4_joinAt 2 = .ok (.iconst 0, 1) := by decide +kernel
theorem dX4_joinAt_3 : decode cX4_joinAt 3 = .ok (.istore 4, 2) := by decide +kernel
theorem dX4_joinAt_5 : decode cX4_joinAt 5 = .ok (.iload 4, 2) := by decide +kernel
theorem dX4_joinAt_7 : decode cX4_joinAt 7 = .ok (.aload_n 0, 1) := by decide +kernel
theorem dX4_joinAt_8 : decode cX4_joinAt 8 = .ok (.invokevirtual 52, 3) := by decide +kernel
theorem dX4_joinAt_11 : decode cX4_joinAt 11 = .ok (.if_icmp .ge 128, 3) := by decide +kernel
theorem dX4_joinAt_14 : decode cX4_joinAt 14 = .ok (.iload 4, 2) := by decide +kernel
theorem dX4_joinAt_16 : decode cX4_joinAt 16 = .ok (.iconst 1, 1) := by decide +kernel
theorem dX4_joinAt_17 : decode cX4_joinAt 17 = .ok (.iadd, 1) := by decide +kernel
theorem dX4_joinAt_18 : decode cX4_joinAt 18 = .ok (.istore 5, 2) := by decide +kernel
theorem dX4_joinAt_20 : decode cX4_joinAt 20 = .ok (.iload 5, 2) := by decide +kernel
theorem dX4_joinAt_22 : decode cX4_joinAt 22 = .ok (.aload_n 0, 1) := by decide +kernel
theorem dX4_joinAt_23 : decode cX4_joinAt 23 = .ok (.invokevirtual 52, 3) := by decide +kernel
theorem dX4_joinAt_26 : decode cX4_joinAt 26 = .ok (.if_icmp .ge 107, 3) := by decide +kernel
theorem dX4_joinAt_29 : decode cX4_joinAt 29 = .ok (.aload_n 0, 1) := by decide +kernel
theorem dX4_joinAt_30 : decode cX4_joinAt 30 = .ok (.iload 4, 2) := by decide +kernel
theorem dX4_joinAt_32 : decode cX4_joinAt 32 = .ok (.invokevirtual 64, 3) := by decide +kernel
theorem dX4_joinAt_35 : decode cX4_joinAt 35 = .ok (.iconst 1, 1) := by decide +kernel
theorem dX4_joinAt_36 : decode cX4_joinAt 36 = .ok (.if_icmp .ne 97, 3) := by decide +kernel
theorem dX4_joinAt_39 : decode cX4_joinAt 39 = .ok (.aload_n 0, 1) := by decide +kernel
theorem dX4_joinAt_40 : decode cX4_joinAt 40 = .ok (.iload 5, 2) := by decide +kernel
theorem dX4_joinAt_42 : decode cX4_joinAt 42 = .ok (.invokevirtual 64, 3) := by decide +kernel
theorem dX4_joinAt_45 : decode cX4_joinAt 45 = .ok (.iconst 1, 1) := by decide +kernel
theorem dX4_joinAt_46 : decode cX4_joinAt 46 = .ok (.if_icmp .ne 30, 3) := by decide +kernel
theorem dX4_joinAt_49 : decode cX4_joinAt 49 = .ok (.aload_n 0, 1) := by decide +kernel
theorem dX4_joinAt_50 : decode cX4_joinAt 50 = .ok (.iload 4, 2) := by decide +kernel
theorem dX4_joinAt_52 : decode cX4_joinAt 52 = .ok (.iload 5, 2) := by decide +kernel
theorem dX4_joinAt_54 : decode cX4_joinAt 54 = .ok (.invokevirtual 124, 3) := by decide +kernel
theorem dX4_joinAt_57 : decode cX4_joinAt 57 = .ok (.ifCond .eq 19, 3) := by decide +kernel
theorem dX4_joinAt_60 : decode cX4_joinAt 60 = .ok (.aload_n 0, 1) := by decide +kernel
theorem dX4_joinAt_61 : decode cX4_joinAt 61 = .ok (.iload 4, 2) := by decide +kernel
theorem dX4_joinAt_63 : decode cX4_joinAt 63 = .ok (.invokevirtual 127, 3) := by decide +kernel
theorem dX4_joinAt_66 : decode cX4_joinAt 66 = .ok (.aload_n 0, 1) := by decide +kernel
theorem dX4_joinAt_67 : decode cX4_joinAt 67 = .ok (.iload 5, 2) := by decide +kernel
theorem dX4_joinAt_69 : decode cX4_joinAt 69 = .ok (.invokevirtual 127, 3) := by decide +kernel
theorem dX4_joinAt_72 : decode cX4_joinAt 72 = .ok (.iand, 1) := by decide +kernel
theorem dX4_joinAt_73 : decode cX4_joinAt 73 = .ok (.goto 4, 3) := by decide +kernel
theorem dX4_joinAt_76 : decode cX4_joinAt 76 = .ok (.iconst 0, 1) := by decide +kernel
theorem dX4_joinAt_77 : decode cX4_joinAt 77 = .ok (.istore 6, 2) := by decide +kernel
theorem dX4_joinAt_79 : decode cX4_joinAt 79 = .ok (.iload 6, 2) := by decide +kernel
theorem dX4_joinAt_81 : decode cX4_joinAt 81 = .ok (.ifCond .eq 33, 3) := by decide +kernel
theorem dX4_joinAt_84 : decode cX4_joinAt 84 = .ok (.iload_n 3, 1) := by decide +kernel
theorem dX4_joinAt_85 : decode cX4_joinAt 85 = .ok (.iload_n 1, 1) := by decide +kernel
theorem dX4_joinAt_86 : decode cX4_joinAt 86 = .ok (.if_icmp .ne 28, 3) := by decide +kernel
theorem dX4_joinAt_89 : decode cX4_joinAt 89 = .ok (.iload_n 2, 1) := by decide +kernel
theorem dX4_joinAt_90 : decode cX4_joinAt 90 = .ok (.ifCond .ne 8, 3) := by decide +kernel
theorem dX4_joinAt_93 : decode cX4_joinAt 93 = .ok (.iload 4, 2) := by decide +kernel
theorem dX4_joinAt_95 : decode cX4_joinAt 95 = .ok (.goto 18, 3) := by decide +kernel
theorem dX4_joinAt_98 : decode cX4_joinAt 98 = .ok (.iload_n 2, 1) := by decide +kernel
theorem dX4_joinAt_99 : decode cX4_joinAt 99 = .ok (.iconst 1, 1) := by decide +kernel
theorem dX4_joinAt_100 : decode cX4_joinAt 100 = .ok (.if_icmp .ne 8, 3) := by decide +kernel
theorem dX4_joinAt_103 : decode cX4_joinAt 103 = .ok (.iload 5, 2) := by decide +kernel
theorem dX4_joinAt_105 : decode cX4_joinAt 105 = .ok (.goto 8, 3) := by decide +kernel
theorem dX4_joinAt_108 : decode cX4_joinAt 108 = .ok (.iload 6, 2) := by decide +kernel
theorem dX4_joinAt_110 : decode cX4_joinAt 110 = .ok (.invokestatic 130, 3) := by decide +kernel
theorem dX4_joinAt_113 : decode cX4_joinAt 113 = .ok (.ireturn, 1) := by decide +kernel
theorem dX4_joinAt_114 : decode cX4_joinAt 114 = .ok (.iload_n 3, 1) := by decide +kernel
theorem dX4_joinAt_115 : decode cX4_joinAt 115 = .ok (.iload 6, 2) := by decide +kernel
theorem dX4_joinAt_117 : decode cX4_joinAt 117 = .ok (.ifCond .eq 7, 3) := by decide +kernel
theorem dX4_joinAt_120 : decode cX4_joinAt 120 = .ok (.iconst 1, 1) := by decide +kernel
theorem dX4_joinAt_121 : decode cX4_joinAt 121 = .ok (.goto 4, 3) := by decide +kernel
theorem dX4_joinAt_124 : decode cX4_joinAt 124 = .ok (.iconst 0, 1) := by decide +kernel
theorem dX4_joinAt_125 : decode cX4_joinAt 125 = .ok (.iadd, 1) := by decide +kernel
theorem dX4_joinAt_126 : decode cX4_joinAt 126 = .ok (.istore_n 3, 1) := by decide +kernel
theorem dX4_joinAt_127 : decode cX4_joinAt 127 = .ok (.iinc 5 1, 3) := by decide +kernel
theorem dX4_joinAt_130 : decode cX4_joinAt 130 = .ok (.goto (-110), 3) := by decide +kernel
theorem dX4_joinAt_133 : decode cX4_joinAt 133 = .ok (.iinc 4 1, 3) := by decide +kernel
theorem dX4_joinAt_136 : decode cX4_joinAt 136 = .ok (.goto (-131), 3) := by decide +kernel
theorem dX4_joinAt_139 : decode cX4_joinAt 139 = .ok (.iload_n 1, 1) := by decide +kernel
theorem dX4_joinAt_140 : decode cX4_joinAt 140 = .ok (.ifCond .ge 7, 3) := by decide +kernel
theorem dX4_joinAt_143 : decode cX4_joinAt 143 = .ok (.iload_n 3, 1) := by decide +kernel
theorem dX4_joinAt_144 : decode cX4_joinAt 144 = .ok (.goto 5, 3) := by decide +kernel
theorem dX4_joinAt_147 : decode cX4_joinAt 147 = .ok (.bipush (-9), 2) := by decide +kernel
theorem dX4_joinAt_149 : decode cX4_joinAt 149 = .ok (.ireturn, 1) := by decide +kernel
theorem dX4_and_0 : decode cX4_and 0 = .ok (.iload_n 0, 1) := by decide +kernel
theorem dX4_and_1 : decode cX4_and 1 = .ok (.ifCond .eq 7, 3) := by decide +kernel
theorem dX4_and_4 : decode cX4_and 4 = .ok (.iload_n 1, 1) := by decide +kernel
theorem dX4_and_5 : decode cX4_and 5 = .ok (.ifCond .ne 7, 3) := by decide +kernel
theorem dX4_and_8 : decode cX4_and 8 = .ok (.iconst 0, 1) := by decide +kernel
theorem dX4_and_9 : decode cX4_and 9 = .ok (.goto 18, 3) := by decide +kernel
theorem dX4_and_12 : decode cX4_and 12 = .ok (.iload_n 0, 1) := by decide +kernel
theorem dX4_and_13 : decode cX4_and 13 = .ok (.iconst 2, 1) := by decide +kernel
theorem dX4_and_14 : decode cX4_and 14 = .ok (.if_icmp .eq 8, 3) := by decide +kernel
theorem dX4_and_17 : decode cX4_and 17 = .ok (.iload_n 1, 1) := by decide +kernel
theorem dX4_and_18 : decode cX4_and 18 = .ok (.iconst 2, 1) := by decide +kernel
theorem dX4_and_19 : decode cX4_and 19 = .ok (.if_icmp .ne 7, 3) := by decide +kernel
theorem dX4_and_22 : decode cX4_and 22 = .ok (.iconst 2, 1) := by decide +kernel
theorem dX4_and_23 : decode cX4_and 23 = .ok (.goto 4, 3) := by decide +kernel
theorem dX4_and_26 : decode cX4_and 26 = .ok (.iconst 1, 1) := by decide +kernel
theorem dX4_and_27 : decode cX4_and 27 = .ok (.ireturn, 1) := by decide +kernel
theorem dX4_or_0 : decode cX4_or 0 = .ok (.iload_n 0, 1) := by decide +kernel
theorem dX4_or_1 : decode cX4_or 1 = .ok (.iconst 1, 1) := by decide +kernel
theorem dX4_or_2 : decode cX4_or 2 = .ok (.if_icmp .eq 8, 3) := by decide +kernel
theorem dX4_or_5 : decode cX4_or 5 = .ok (.iload_n 1, 1) := by decide +kernel
theorem dX4_or_6 : decode cX4_or 6 = .ok (.iconst 1, 1) := by decide +kernel
theorem dX4_or_7 : decode cX4_or 7 = .ok (.if_icmp .ne 7, 3) := by decide +kernel
theorem dX4_or_10 : decode cX4_or 10 = .ok (.iconst 1, 1) := by decide +kernel
theorem dX4_or_11 : decode cX4_or 11 = .ok (.goto 18, 3) := by decide +kernel
theorem dX4_or_14 : decode cX4_or 14 = .ok (.iload_n 0, 1) := by decide +kernel
theorem dX4_or_15 : decode cX4_or 15 = .ok (.iconst 2, 1) := by decide +kernel
theorem dX4_or_16 : decode cX4_or 16 = .ok (.if_icmp .eq 8, 3) := by decide +kernel
theorem dX4_or_19 : decode cX4_or 19 = .ok (.iload_n 1, 1) := by decide +kernel
theorem dX4_or_20 : decode cX4_or 20 = .ok (.iconst 2, 1) := by decide +kernel
theorem dX4_or_21 : decode cX4_or 21 = .ok (.if_icmp .ne 7, 3) := by decide +kernel
theorem dX4_or_24 : decode cX4_or 24 = .ok (.iconst 2, 1) := by decide +kernel
theorem dX4_or_25 : decode cX4_or 25 = .ok (.goto 4, 3) := by decide +kernel
theorem dX4_or_28 : decode cX4_or 28 = .ok (.iconst 0, 1) := by decide +kernel
theorem dX4_or_29 : decode cX4_or 29 = .ok (.ireturn, 1) := by decide +kernel
theorem dX4_xor_0 : decode cX4_xor 0 = .ok (.iload_n 0, 1) := by decide +kernel
theorem dX4_xor_1 : decode cX4_xor 1 = .ok (.iconst 2, 1) := by decide +kernel
theorem dX4_xor_2 : decode cX4_xor 2 = .ok (.if_icmp .eq 8, 3) := by decide +kernel
theorem dX4_xor_5 : decode cX4_xor 5 = .ok (.iload_n 1, 1) := by decide +kernel
theorem dX4_xor_6 : decode cX4_xor 6 = .ok (.iconst 2, 1) := by decide +kernel
theorem dX4_xor_7 : decode cX4_xor 7 = .ok (.if_icmp .ne 7, 3) := by decide +kernel
theorem dX4_xor_10 : decode cX4_xor 10 = .ok (.iconst 2, 1) := by decide +kernel
theorem dX4_xor_11 : decode cX4_xor 11 = .ok (.goto 6, 3) := by decide +kernel
theorem dX4_xor_14 : decode cX4_xor 14 = .ok (.iload_n 0, 1) := by decide +kernel
theorem dX4_xor_15 : decode cX4_xor 15 = .ok (.iload_n 1, 1) := by decide +kernel
theorem dX4_xor_16 : decode cX4_xor 16 = .ok (.ixor, 1) := by decide +kernel
theorem dX4_xor_17 : decode cX4_xor 17 = .ok (.ireturn, 1) := by decide +kernel
theorem dX4_choose_0 : decode cX4_choose 0 = .ok (.iload_n 0, 1) := by decide +kernel
theorem dX4_choose_1 : decode cX4_choose 1 = .ok (.ifCond .ne 7, 3) := by decide +kernel
theorem dX4_choose_4 : decode cX4_choose 4 = .ok (.iload_n 1, 1) := by decide +kernel
theorem dX4_choose_5 : decode cX4_choose 5 = .ok (.goto 22, 3) := by decide +kernel
theorem dX4_choose_8 : decode cX4_choose 8 = .ok (.iload_n 0, 1) := by decide +kernel
theorem dX4_choose_9 : decode cX4_choose 9 = .ok (.iconst 1, 1) := by decide +kernel
theorem dX4_choose_10 : decode cX4_choose 10 = .ok (.if_icmp .ne 7, 3) := by decide +kernel
theorem dX4_choose_13 : decode cX4_choose 13 = .ok (.iload_n 2, 1) := by decide +kernel
theorem dX4_choose_14 : decode cX4_choose 14 = .ok (.goto 13, 3) := by decide +kernel
theorem dX4_choose_17 : decode cX4_choose 17 = .ok (.iload_n 1, 1) := by decide +kernel
theorem dX4_choose_18 : decode cX4_choose 18 = .ok (.iload_n 2, 1) := by decide +kernel
theorem dX4_choose_19 : decode cX4_choose 19 = .ok (.if_icmp .ne 7, 3) := by decide +kernel
theorem dX4_choose_22 : decode cX4_choose 22 = .ok (.iload_n 1, 1) := by decide +kernel
theorem dX4_choose_23 : decode cX4_choose 23 = .ok (.goto 4, 3) := by decide +kernel
theorem dX4_choose_26 : decode cX4_choose 26 = .ok (.iconst 2, 1) := by decide +kernel
theorem dX4_choose_27 : decode cX4_choose 27 = .ok (.ireturn, 1) := by decide +kernel
theorem dX4_gate_0 : decode cX4_gate 0 = .ok (.aload_n 0, 1) := by decide +kernel
theorem dX4_gate_1 : decode cX4_gate 1 = .ok (.getfield 35, 3) := by decide +kernel
theorem dX4_gate_4 : decode cX4_gate 4 = .ok (.aload_n 0, 1) := by decide +kernel
theorem dX4_gate_5 : decode cX4_gate 5 = .ok (.iload_n 1, 1) := by decide +kernel
theorem dX4_gate_6 : decode cX4_gate 6 = .ok (.iconst 0, 1) := by decide +kernel
theorem dX4_gate_7 : decode cX4_gate 7 = .ok (.invokevirtual 71, 3) := by decide +kernel
theorem dX4_gate_10 : decode cX4_gate 10 = .ok (.iaload, 1) := by decide +kernel
theorem dX4_gate_11 : decode cX4_gate 11 = .ok (.istore_n 2, 1) := by decide +kernel
theorem dX4_gate_12 : decode cX4_gate 12 = .ok (.aload_n 0, 1) := by decide +kernel
theorem dX4_gate_13 : decode cX4_gate 13 = .ok (.getfield 35, 3) := by decide +kernel
theorem dX4_gate_16 : decode cX4_gate 16 = .ok (.aload_n 0, 1) := by decide +kernel
theorem dX4_gate_17 : decode cX4_gate 17 = .ok (.iload_n 1, 1) := by decide +kernel
theorem dX4_gate_18 : decode cX4_gate 18 = .ok (.iconst 1, 1) := by decide +kernel
theorem dX4_gate_19 : decode cX4_gate 19 = .ok (.invokevirtual 71, 3) := by decide +kernel
theorem dX4_gate_22 : decode cX4_gate 22 = .ok (.iaload, 1) := by decide +kernel
theorem dX4_gate_23 : decode cX4_gate 23 = .ok (.istore_n 3, 1) := by decide +kernel
theorem dX4_gate_24 : decode cX4_gate 24 = .ok (.aload_n 0, 1) := by decide +kernel
theorem dX4_gate_25 : decode cX4_gate 25 = .ok (.iload_n 1, 1) := by decide +kernel
theorem dX4_gate_26 : decode cX4_gate 26 = .ok (.invokevirtual 64, 3) := by decide +kernel
theorem dX4_gate_29 : decode cX4_gate 29 = .ok (.tableswitch 45 2 4 #[27, 33, 39], 27) := by decide +kernel
theorem dX4_gate_56 : decode cX4_gate 56 = .ok (.iload_n 2, 1) := by decide +kernel
theorem dX4_gate_57 : decode cX4_gate 57 = .ok (.iload_n 3, 1) := by decide +kernel
theorem dX4_gate_58 : decode cX4_gate 58 = .ok (.invokestatic 133, 3) := by decide +kernel
theorem dX4_gate_61 : decode cX4_gate 61 = .ok (.ireturn, 1) := by decide +kernel
theorem dX4_gate_62 : decode cX4_gate 62 = .ok (.iload_n 2, 1) := by decide +kernel
theorem dX4_gate_63 : decode cX4_gate 63 = .ok (.iload_n 3, 1) := by decide +kernel
theorem dX4_gate_64 : decode cX4_gate 64 = .ok (.invokestatic 136, 3) := by decide +kernel
theorem dX4_gate_67 : decode cX4_gate 67 = .ok (.ireturn, 1) := by decide +kernel
theorem dX4_gate_68 : decode cX4_gate 68 = .ok (.iload_n 2, 1) := by decide +kernel
theorem dX4_gate_69 : decode cX4_gate 69 = .ok (.iload_n 3, 1) := by decide +kernel
theorem dX4_gate_70 : decode cX4_gate 70 = .ok (.invokestatic 139, 3) := by decide +kernel
theorem dX4_gate_73 : decode cX4_gate 73 = .ok (.ireturn, 1) := by decide +kernel
theorem dX4_gate_74 : decode cX4_gate 74 = .ok (.iload_n 2, 1) := by decide +kernel
theorem dX4_gate_75 : decode cX4_gate 75 = .ok (.iload_n 3, 1) := by decide +kernel
theorem dX4_gate_76 : decode cX4_gate 76 = .ok (.aload_n 0, 1) := by decide +kernel
theorem dX4_gate_77 : decode cX4_gate 77 = .ok (.getfield 35, 3) := by decide +kernel
theorem dX4_gate_80 : decode cX4_gate 80 = .ok (.aload_n 0, 1) := by decide +kernel
theorem dX4_gate_81 : decode cX4_gate 81 = .ok (.iload_n 1, 1) := by decide +kernel
theorem dX4_gate_82 : decode cX4_gate 82 = .ok (.iconst 2, 1) := by decide +kernel
theorem dX4_gate_83 : decode cX4_gate 83 = .ok (.invokevirtual 71, 3) := by decide +kernel
theorem dX4_gate_86 : decode cX4_gate 86 = .ok (.iaload, 1) := by decide +kernel
theorem dX4_gate_87 : decode cX4_gate 87 = .ok (.invokestatic 142, 3) := by decide +kernel
theorem dX4_gate_90 : decode cX4_gate 90 = .ok (.ireturn, 1) := by decide +kernel
theorem dX4_findValues_0 : decode cX4_findValues 0 = .ok (.iconst 0, 1) := by decide +kernel
theorem dX4_findValues_1 : decode cX4_findValues 1 = .ok (.istore_n 2, 1) := by decide +kernel
theorem dX4_findValues_2 : decode cX4_findValues 2 = .ok (.iload_n 2, 1) := by decide +kernel
theorem dX4_findValues_3 : decode cX4_findValues 3 = .ok (.aload_n 0, 1) := by decide +kernel
theorem dX4_findValues_4 : decode cX4_findValues 4 = .ok (.invokevirtual 52, 3) := by decide +kernel
theorem dX4_findValues_7 : decode cX4_findValues 7 = .ok (.if_icmp .ge 36, 3) := by decide +kernel
theorem dX4_findValues_10 : decode cX4_findValues 10 = .ok (.aload_n 0, 1) := by decide +kernel
theorem dX4_findValues_11 : decode cX4_findValues 11 = .ok (.getfield 35, 3) := by decide +kernel
theorem dX4_findValues_14 : decode cX4_findValues 14 = .ok (.iload_n 2, 1) := by decide +kernel
theorem dX4_findValues_15 : decode cX4_findValues 15 = .ok (.aload_n 0, 1) := by decide +kernel
theorem dX4_findValues_16 : decode cX4_findValues 16 = .ok (.iload_n 2, 1) := by decide +kernel
theorem dX4_findValues_17 : decode cX4_findValues 17 = .ok (.invokevirtual 75, 3) := by decide +kernel
theorem dX4_findValues_20 : decode cX4_findValues 20 = .ok (.ifCond .eq 11, 3) := by decide +kernel
theorem dX4_findValues_23 : decode cX4_findValues 23 = .ok (.aload_n 1, 1) := by decide +kernel
theorem dX4_findValues_24 : decode cX4_findValues 24 = .ok (.iconst 4, 1) := by decide +kernel
theorem dX4_findValues_25 : decode cX4_findValues 25 = .ok (.iload_n 2, 1) := by decide +kernel
theorem dX4_findValues_26 : decode cX4_findValues 26 = .ok (.iadd, 1) := by decide +kernel
theorem dX4_findValues_27 : decode cX4_findValues 27 = .ok (.iaload, 1) := by decide +kernel
theorem dX4_findValues_28 : decode cX4_findValues 28 = .ok (.goto 8, 3) := by decide +kernel
theorem dX4_findValues_31 : decode cX4_findValues 31 = .ok (.aload_n 0, 1) := by decide +kernel
theorem dX4_findValues_32 : decode cX4_findValues 32 = .ok (.iload_n 2, 1) := by decide +kernel
theorem dX4_findValues_33 : decode cX4_findValues 33 = .ok (.invokevirtual 146, 3) := by decide +kernel
theorem dX4_findValues_36 : decode cX4_findValues 36 = .ok (.iastore, 1) := by decide +kernel
theorem dX4_findValues_37 : decode cX4_findValues 37 = .ok (.iinc 2 1, 3) := by decide +kernel
theorem dX4_findValues_40 : decode cX4_findValues 40 = .ok (.goto (-38), 3) := by decide +kernel
theorem dX4_findValues_43 : decode cX4_findValues 43 = .ok (.return_, 1) := by decide +kernel
theorem dX4_tick_0 : decode cX4_tick 0 = .ok (.aload_n 0, 1) := by decide +kernel
theorem dX4_tick_1 : decode cX4_tick 1 = .ok (.aload_n 1, 1) := by decide +kernel
theorem dX4_tick_2 : decode cX4_tick 2 = .ok (.invokevirtual 149, 3) := by decide +kernel
theorem dX4_tick_5 : decode cX4_tick 5 = .ok (.aload_n 1, 1) := by decide +kernel
theorem dX4_tick_6 : decode cX4_tick 6 = .ok (.iconst 1, 1) := by decide +kernel
theorem dX4_tick_7 : decode cX4_tick 7 = .ok (.dup2, 1) := by decide +kernel
theorem dX4_tick_8 : decode cX4_tick 8 = .ok (.iaload, 1) := by decide +kernel
theorem dX4_tick_9 : decode cX4_tick 9 = .ok (.iconst 1, 1) := by decide +kernel
theorem dX4_tick_10 : decode cX4_tick 10 = .ok (.iadd, 1) := by decide +kernel
theorem dX4_tick_11 : decode cX4_tick 11 = .ok (.iastore, 1) := by decide +kernel
theorem dX4_tick_12 : decode cX4_tick 12 = .ok (.iconst 0, 1) := by decide +kernel
theorem dX4_tick_13 : decode cX4_tick 13 = .ok (.istore_n 2, 1) := by decide +kernel
theorem dX4_tick_14 : decode cX4_tick 14 = .ok (.iconst 0, 1) := by decide +kernel
theorem dX4_tick_15 : decode cX4_tick 15 = .ok (.istore_n 3, 1) := by decide +kernel
theorem dX4_tick_16 : decode cX4_tick 16 = .ok (.iload_n 3, 1) := by decide +kernel
theorem dX4_tick_17 : decode cX4_tick 17 = .ok (.aload_n 0, 1) := by decide +kernel
theorem dX4_tick_18 : decode cX4_tick 18 = .ok (.invokevirtual 52, 3) := by decide +kernel
theorem dX4_tick_21 : decode cX4_tick 21 = .ok (.if_icmp .ge 171, 3) := by decide +kernel
theorem dX4_tick_24 : decode cX4_tick 24 = .ok (.aload_n 0, 1) := by decide +kernel
theorem dX4_tick_25 : decode cX4_tick 25 = .ok (.iload_n 3, 1) := by decide +kernel
theorem dX4_tick_26 : decode cX4_tick 26 = .ok (.invokevirtual 75, 3) := by decide +kernel
theorem dX4_tick_29 : decode cX4_tick 29 = .ok (.ifCond .eq 157, 3) := by decide +kernel
theorem dX4_tick_32 : decode cX4_tick 32 = .ok (.aload_n 1, 1) := by decide +kernel
theorem dX4_tick_33 : decode cX4_tick 33 = .ok (.iconst 1, 1) := by decide +kernel
theorem dX4_tick_34 : decode cX4_tick 34 = .ok (.iaload, 1) := by decide +kernel
theorem dX4_tick_35 : decode cX4_tick 35 = .ok (.aload_n 0, 1) := by decide +kernel
theorem dX4_tick_36 : decode cX4_tick 36 = .ok (.getfield 7, 3) := by decide +kernel
theorem dX4_tick_39 : decode cX4_tick 39 = .ok (.bipush 92, 2) := by decide +kernel
theorem dX4_tick_41 : decode cX4_tick 41 = .ok (.aload_n 0, 1) := by decide +kernel
theorem dX4_tick_42 : decode cX4_tick 42 = .ok (.iload_n 3, 1) := by decide +kernel
theorem dX4_tick_43 : decode cX4_tick 43 = .ok (.invokevirtual 88, 3) := by decide +kernel
theorem dX4_tick_46 : decode cX4_tick 46 = .ok (.iadd, 1) := by decide +kernel
theorem dX4_tick_47 : decode cX4_tick 47 = .ok (.iaload, 1) := by decide +kernel
theorem dX4_tick_48 : decode cX4_tick 48 = .ok (.irem, 1) := by decide +kernel
theorem dX4_tick_49 : decode cX4_tick 49 = .ok (.ifCond .ne 137, 3) := by decide +kernel
theorem dX4_tick_52 : decode cX4_tick 52 = .ok (.aload_n 0, 1) := by decide +kernel
theorem dX4_tick_53 : decode cX4_tick 53 = .ok (.iload_n 3, 1) := by decide +kernel
theorem dX4_tick_54 : decode cX4_tick 54 = .ok (.invokevirtual 64, 3) := by decide +kernel
theorem dX4_tick_57 : decode cX4_tick 57 = .ok (.ifCond .ne 12, 3) := by decide +kernel
theorem dX4_tick_60 : decode cX4_tick 60 = .ok (.aload_n 1, 1) := by decide +kernel
theorem dX4_tick_61 : decode cX4_tick 61 = .ok (.bipush 20, 2) := by decide +kernel
theorem dX4_tick_63 : decode cX4_tick 63 = .ok (.iload_n 3, 1) := by decide +kernel
theorem dX4_tick_64 : decode cX4_tick 64 = .ok (.iadd, 1) := by decide +kernel
theorem dX4_tick_65 : decode cX4_tick 65 = .ok (.iaload, 1) := by decide +kernel
theorem dX4_tick_66 : decode cX4_tick 66 = .ok (.goto 22, 3) := by decide +kernel
theorem dX4_tick_69 : decode cX4_tick 69 = .ok (.aload_n 0, 1) := by decide +kernel
theorem dX4_tick_70 : decode cX4_tick 70 = .ok (.iload_n 3, 1) := by decide +kernel
theorem dX4_tick_71 : decode cX4_tick 71 = .ok (.invokevirtual 91, 3) := by decide +kernel
theorem dX4_tick_74 : decode cX4_tick 74 = .ok (.iload_n 2, 1) := by decide +kernel
theorem dX4_tick_75 : decode cX4_tick 75 = .ok (.iand, 1) := by decide +kernel
theorem dX4_tick_76 : decode cX4_tick 76 = .ok (.ifCond .eq 7, 3) := by decide +kernel
theorem dX4_tick_79 : decode cX4_tick 79 = .ok (.iconst 2, 1) := by decide +kernel
theorem dX4_tick_80 : decode cX4_tick 80 = .ok (.goto 8, 3) := by decide +kernel
theorem dX4_tick_83 : decode cX4_tick 83 = .ok (.aload_n 0, 1) := by decide +kernel
theorem dX4_tick_84 : decode cX4_tick 84 = .ok (.iload_n 3, 1) := by decide +kernel
theorem dX4_tick_85 : decode cX4_tick 85 = .ok (.invokevirtual 152, 3) := by decide +kernel
theorem dX4_tick_88 : decode cX4_tick 88 = .ok (.istore 4, 2) := by decide +kernel
theorem dX4_tick_90 : decode cX4_tick 90 = .ok (.aload_n 0, 1) := by decide +kernel
theorem dX4_tick_91 : decode cX4_tick 91 = .ok (.iload_n 3, 1) := by decide +kernel
theorem dX4_tick_92 : decode cX4_tick 92 = .ok (.invokevirtual 64, 3) := by decide +kernel
theorem dX4_tick_95 : decode cX4_tick 95 = .ok (.iconst 1, 1) := by decide +kernel
theorem dX4_tick_96 : decode cX4_tick 96 = .ok (.if_icmp .ne 23, 3) := by decide +kernel
theorem dX4_tick_99 : decode cX4_tick 99 = .ok (.aload_n 0, 1) := by decide +kernel
theorem dX4_tick_100 : decode cX4_tick 100 = .ok (.iload_n 3, 1) := by decide +kernel
theorem dX4_tick_101 : decode cX4_tick 101 = .ok (.invokevirtual 91, 3) := by decide +kernel
theorem dX4_tick_104 : decode cX4_tick 104 = .ok (.iload_n 2, 1) := by decide +kernel
theorem dX4_tick_105 : decode cX4_tick 105 = .ok (.iand, 1) := by decide +kernel
theorem dX4_tick_106 : decode cX4_tick 106 = .ok (.ifCond .eq 13, 3) := by decide +kernel
theorem dX4_tick_109 : decode cX4_tick 109 = .ok (.aload_n 1, 1) := by decide +kernel
theorem dX4_tick_110 : decode cX4_tick 110 = .ok (.iconst 2, 1) := by decide +kernel
theorem dX4_tick_111 : decode cX4_tick 111 = .ok (.dup2, 1) := by decide +kernel
theorem dX4_tick_112 : decode cX4_tick 112 = .ok (.iaload, 1) := by decide +kernel
theorem dX4_tick_113 : decode cX4_tick 113 = .ok (.iconst 1, 1) := by decide +kernel
theorem dX4_tick_114 : decode cX4_tick 114 = .ok (.iadd, 1) := by decide +kernel
theorem dX4_tick_115 : decode cX4_tick 115 = .ok (.iastore, 1) := by decide +kernel
theorem dX4_tick_116 : decode cX4_tick 116 = .ok (.goto 42, 3) := by decide +kernel
theorem dX4_tick_119 : decode cX4_tick 119 = .ok (.aload_n 0, 1) := by decide +kernel
theorem dX4_tick_120 : decode cX4_tick 120 = .ok (.iload_n 3, 1) := by decide +kernel
theorem dX4_tick_121 : decode cX4_tick 121 = .ok (.invokevirtual 64, 3) := by decide +kernel
theorem dX4_tick_124 : decode cX4_tick 124 = .ok (.iconst 1, 1) := by decide +kernel
theorem dX4_tick_125 : decode cX4_tick 125 = .ok (.if_icmp .ne 33, 3) := by decide +kernel
theorem dX4_tick_128 : decode cX4_tick 128 = .ok (.aload_n 0, 1) := by decide +kernel
theorem dX4_tick_129 : decode cX4_tick 129 = .ok (.getfield 35, 3) := by decide +kernel
theorem dX4_tick_132 : decode cX4_tick 132 = .ok (.aload_n 0, 1) := by decide +kernel
theorem dX4_tick_133 : decode cX4_tick 133 = .ok (.iload_n 3, 1) := by decide +kernel
theorem dX4_tick_134 : decode cX4_tick 134 = .ok (.iconst 0, 1) := by decide +kernel
theorem dX4_tick_135 : decode cX4_tick 135 = .ok (.invokevirtual 71, 3) := by decide +kernel
theorem dX4_tick_138 : decode cX4_tick 138 = .ok (.iaload, 1) := by decide +kernel
theorem dX4_tick_139 : decode cX4_tick 139 = .ok (.iconst 2, 1) := by decide +kernel
theorem dX4_tick_140 : decode cX4_tick 140 = .ok (.if_icmp .ne 18, 3) := by decide +kernel
theorem dX4_tick_143 : decode cX4_tick 143 = .ok (.aload_n 0, 1) := by decide +kernel
theorem dX4_tick_144 : decode cX4_tick 144 = .ok (.iload_n 3, 1) := by decide +kernel
theorem dX4_tick_145 : decode cX4_tick 145 = .ok (.invokevirtual 155, 3) := by decide +kernel
theorem dX4_tick_148 : decode cX4_tick 148 = .ok (.ifCond .ne 10, 3) := by decide +kernel
theorem dX4_tick_151 : decode cX4_tick 151 = .ok (.aload_n 1, 1) := by decide +kernel
theorem dX4_tick_152 : decode cX4_tick 152 = .ok (.iconst 3, 1) := by decide +kernel
theorem dX4_tick_153 : decode cX4_tick 153 = .ok (.dup2, 1) := by decide +kernel
theorem dX4_tick_154 : decode cX4_tick 154 = .ok (.iaload, 1) := by decide +kernel
theorem dX4_tick_155 : decode cX4_tick 155 = .ok (.iconst 1, 1) := by decide +kernel
theorem dX4_tick_156 : decode cX4_tick 156 = .ok (.iadd, 1) := by decide +kernel
theorem dX4_tick_157 : decode cX4_tick 157 = .ok (.iastore, 1) := by decide +kernel
theorem dX4_tick_158 : decode cX4_tick 158 = .ok (.iload_n 2, 1) := by decide +kernel
theorem dX4_tick_159 : decode cX4_tick 159 = .ok (.iload 4, 2) := by decide +kernel
theorem dX4_tick_161 : decode cX4_tick 161 = .ok (.aload_n 0, 1) := by decide +kernel
theorem dX4_tick_162 : decode cX4_tick 162 = .ok (.getfield 35, 3) := by decide +kernel
theorem dX4_tick_165 : decode cX4_tick 165 = .ok (.iload_n 3, 1) := by decide +kernel
theorem dX4_tick_166 : decode cX4_tick 166 = .ok (.iaload, 1) := by decide +kernel
theorem dX4_tick_167 : decode cX4_tick 167 = .ok (.if_icmp .ne 7, 3) := by decide +kernel
theorem dX4_tick_170 : decode cX4_tick 170 = .ok (.iconst 0, 1) := by decide +kernel
theorem dX4_tick_171 : decode cX4_tick 171 = .ok (.goto 6, 3) := by decide +kernel
theorem dX4_tick_174 : decode cX4_tick 174 = .ok (.iconst 1, 1) := by decide +kernel
theorem dX4_tick_175 : decode cX4_tick 175 = .ok (.iload_n 3, 1) := by decide +kernel
theorem dX4_tick_176 : decode cX4_tick 176 = .ok (.ishl, 1) := by decide +kernel
theorem dX4_tick_177 : decode cX4_tick 177 = .ok (.ior, 1) := by decide +kernel
theorem dX4_tick_178 : decode cX4_tick 178 = .ok (.istore_n 2, 1) := by decide +kernel
theorem dX4_tick_179 : decode cX4_tick 179 = .ok (.aload_n 1, 1) := by decide +kernel
theorem dX4_tick_180 : decode cX4_tick 180 = .ok (.iconst 4, 1) := by decide +kernel
theorem dX4_tick_181 : decode cX4_tick 181 = .ok (.iload_n 3, 1) := by decide +kernel
theorem dX4_tick_182 : decode cX4_tick 182 = .ok (.iadd, 1) := by decide +kernel
theorem dX4_tick_183 : decode cX4_tick 183 = .ok (.iload 4, 2) := by decide +kernel
theorem dX4_tick_185 : decode cX4_tick 185 = .ok (.iastore, 1) := by decide +kernel
theorem dX4_tick_186 : decode cX4_tick 186 = .ok (.iinc 3 1, 3) := by decide +kernel
theorem dX4_tick_189 : decode cX4_tick 189 = .ok (.goto (-173), 3) := by decide +kernel
theorem dX4_tick_192 : decode cX4_tick 192 = .ok (.return_, 1) := by decide +kernel
theorem dX4_isSettled_0 : decode cX4_isSettled 0 = .ok (.aload_n 0, 1) := by decide +kernel
theorem dX4_isSettled_1 : decode cX4_isSettled 1 = .ok (.iload_n 1, 1) := by decide +kernel
theorem dX4_isSettled_2 : decode cX4_isSettled 2 = .ok (.iconst 0, 1) := by decide +kernel
theorem dX4_isSettled_3 : decode cX4_isSettled 3 = .ok (.invokevirtual 71, 3) := by decide +kernel
theorem dX4_isSettled_6 : decode cX4_isSettled 6 = .ok (.istore_n 2, 1) := by decide +kernel
theorem dX4_isSettled_7 : decode cX4_isSettled 7 = .ok (.aload_n 0, 1) := by decide +kernel
theorem dX4_isSettled_8 : decode cX4_isSettled 8 = .ok (.iload_n 2, 1) := by decide +kernel
theorem dX4_isSettled_9 : decode cX4_isSettled 9 = .ok (.invokevirtual 64, 3) := by decide +kernel
theorem dX4_isSettled_12 : decode cX4_isSettled 12 = .ok (.iconst 1, 1) := by decide +kernel
theorem dX4_isSettled_13 : decode cX4_isSettled 13 = .ok (.if_icmp .ne 38, 3) := by decide +kernel
theorem dX4_isSettled_16 : decode cX4_isSettled 16 = .ok (.aload_n 0, 1) := by decide +kernel
theorem dX4_isSettled_17 : decode cX4_isSettled 17 = .ok (.iload_n 2, 1) := by decide +kernel
theorem dX4_isSettled_18 : decode cX4_isSettled 18 = .ok (.invokevirtual 88, 3) := by decide +kernel
theorem dX4_isSettled_21 : decode cX4_isSettled 21 = .ok (.aload_n 0, 1) := by decide +kernel
theorem dX4_isSettled_22 : decode cX4_isSettled 22 = .ok (.iload_n 1, 1) := by decide +kernel
theorem dX4_isSettled_23 : decode cX4_isSettled 23 = .ok (.invokevirtual 88, 3) := by decide +kernel
theorem dX4_isSettled_26 : decode cX4_isSettled 26 = .ok (.if_icmp .ne 25, 3) := by decide +kernel
theorem dX4_isSettled_29 : decode cX4_isSettled 29 = .ok (.aload_n 0, 1) := by decide +kernel
theorem dX4_isSettled_30 : decode cX4_isSettled 30 = .ok (.iload_n 2, 1) := by decide +kernel
theorem dX4_isSettled_31 : decode cX4_isSettled 31 = .ok (.invokevirtual 100, 3) := by decide +kernel
theorem dX4_isSettled_34 : decode cX4_isSettled 34 = .ok (.ifCond .eq 17, 3) := by decide +kernel
theorem dX4_isSettled_37 : decode cX4_isSettled 37 = .ok (.aload_n 0, 1) := by decide +kernel
theorem dX4_isSettled_38 : decode cX4_isSettled 38 = .ok (.getfield 35, 3) := by decide +kernel
theorem dX4_isSettled_41 : decode cX4_isSettled 41 = .ok (.iload_n 2, 1) := by decide +kernel
theorem dX4_isSettled_42 : decode cX4_isSettled 42 = .ok (.iaload, 1) := by decide +kernel
theorem dX4_isSettled_43 : decode cX4_isSettled 43 = .ok (.iconst 2, 1) := by decide +kernel
theorem dX4_isSettled_44 : decode cX4_isSettled 44 = .ok (.if_icmp .ne 7, 3) := by decide +kernel
theorem dX4_isSettled_47 : decode cX4_isSettled 47 = .ok (.iconst 1, 1) := by decide +kernel
theorem dX4_isSettled_48 : decode cX4_isSettled 48 = .ok (.goto 4, 3) := by decide +kernel
theorem dX4_isSettled_51 : decode cX4_isSettled 51 = .ok (.iconst 0, 1) := by decide +kernel
theorem dX4_isSettled_52 : decode cX4_isSettled 52 = .ok (.ireturn, 1) := by decide +kernel
theorem dX4_taken_0 : decode cX4_taken 0 = .ok (.aload_n 0, 1) := by decide +kernel
theorem dX4_taken_1 : decode cX4_taken 1 = .ok (.iload_n 1, 1) := by decide +kernel
theorem dX4_taken_2 : decode cX4_taken 2 = .ok (.iconst 0, 1) := by decide +kernel
theorem dX4_taken_3 : decode cX4_taken 3 = .ok (.invokevirtual 71, 3) := by decide +kernel
theorem dX4_taken_6 : decode cX4_taken 6 = .ok (.istore_n 2, 1) := by decide +kernel
theorem dX4_taken_7 : decode cX4_taken 7 = .ok (.aload_n 0, 1) := by decide +kernel
theorem dX4_taken_8 : decode cX4_taken 8 = .ok (.iload_n 1, 1) := by decide +kernel
theorem dX4_taken_9 : decode cX4_taken 9 = .ok (.invokevirtual 155, 3) := by decide +kernel
theorem dX4_taken_12 : decode cX4_taken 12 = .ok (.ifCond .ne 10, 3) := by decide +kernel
theorem dX4_taken_15 : decode cX4_taken 15 = .ok (.aload_n 0, 1) := by decide +kernel
theorem dX4_taken_16 : decode cX4_taken 16 = .ok (.getfield 35, 3) := by decide +kernel
theorem dX4_taken_19 : decode cX4_taken 19 = .ok (.iload_n 2, 1) := by decide +kernel
theorem dX4_taken_20 : decode cX4_taken 20 = .ok (.iaload, 1) := by decide +kernel
theorem dX4_taken_21 : decode cX4_taken 21 = .ok (.ireturn, 1) := by decide +kernel
theorem dX4_taken_22 : decode cX4_taken 22 = .ok (.aload_n 0, 1) := by decide +kernel
theorem dX4_taken_23 : decode cX4_taken 23 = .ok (.getfield 35, 3) := by decide +kernel
theorem dX4_taken_26 : decode cX4_taken 26 = .ok (.aload_n 0, 1) := by decide +kernel
theorem dX4_taken_27 : decode cX4_taken 27 = .ok (.iload_n 2, 1) := by decide +kernel
theorem dX4_taken_28 : decode cX4_taken 28 = .ok (.iconst 0, 1) := by decide +kernel
theorem dX4_taken_29 : decode cX4_taken 29 = .ok (.invokevirtual 71, 3) := by decide +kernel
theorem dX4_taken_32 : decode cX4_taken 32 = .ok (.iaload, 1) := by decide +kernel
theorem dX4_taken_33 : decode cX4_taken 33 = .ok (.istore_n 3, 1) := by decide +kernel
theorem dX4_taken_34 : decode cX4_taken 34 = .ok (.iload_n 3, 1) := by decide +kernel
theorem dX4_taken_35 : decode cX4_taken 35 = .ok (.iconst 2, 1) := by decide +kernel
theorem dX4_taken_36 : decode cX4_taken 36 = .ok (.if_icmp .ne 7, 3) := by decide +kernel
theorem dX4_taken_39 : decode cX4_taken 39 = .ok (.iconst 0, 1) := by decide +kernel
theorem dX4_taken_40 : decode cX4_taken 40 = .ok (.goto 4, 3) := by decide +kernel
theorem dX4_taken_43 : decode cX4_taken 43 = .ok (.iload_n 3, 1) := by decide +kernel
theorem dX4_taken_44 : decode cX4_taken 44 = .ok (.ireturn, 1) := by decide +kernel
theorem dX4_note_0 : decode cX4_note 0 = .ok (.aload_n 0, 1) := by decide +kernel
theorem dX4_note_1 : decode cX4_note 1 = .ok (.getfield 48, 3) := by decide +kernel
theorem dX4_note_4 : decode cX4_note 4 = .ok (.bipush 6, 2) := by decide +kernel
theorem dX4_note_6 : decode cX4_note 6 = .ok (.if_icmp .ne 43, 3) := by decide +kernel
theorem dX4_note_9 : decode cX4_note 9 = .ok (.iconst 0, 1) := by decide +kernel
theorem dX4_note_10 : decode cX4_note 10 = .ok (.istore_n 1, 1) := by decide +kernel
theorem dX4_note_11 : decode cX4_note 11 = .ok (.iload_n 1, 1) := by decide +kernel
theorem dX4_note_12 : decode cX4_note 12 = .ok (.sipush 180, 3) := by decide +kernel
theorem dX4_note_15 : decode cX4_note 15 = .ok (.if_icmp .ge 24, 3) := by decide +kernel
theorem dX4_note_18 : decode cX4_note 18 = .ok (.aload_n 0, 1) := by decide +kernel
theorem dX4_note_19 : decode cX4_note 19 = .ok (.getfield 22, 3) := by decide +kernel
theorem dX4_note_22 : decode cX4_note 22 = .ok (.iload_n 1, 1) := by decide +kernel
theorem dX4_note_23 : decode cX4_note 23 = .ok (.aload_n 0, 1) := by decide +kernel
theorem dX4_note_24 : decode cX4_note 24 = .ok (.getfield 22, 3) := by decide +kernel
theorem dX4_note_27 : decode cX4_note 27 = .ok (.iload_n 1, 1) := by decide +kernel
theorem dX4_note_28 : decode cX4_note 28 = .ok (.bipush 36, 2) := by decide +kernel
theorem dX4_note_30 : decode cX4_note 30 = .ok (.iadd, 1) := by decide +kernel
theorem dX4_note_31 : decode cX4_note 31 = .ok (.iaload, 1) := by decide +kernel
theorem dX4_note_32 : decode cX4_note 32 = .ok (.iastore, 1) := by decide +kernel
theorem dX4_note_33 : decode cX4_note 33 = .ok (.iinc 1 1, 3) := by decide +kernel
theorem dX4_note_36 : decode cX4_note 36 = .ok (.goto (-25), 3) := by decide +kernel
theorem dX4_note_39 : decode cX4_note 39 = .ok (.aload_n 0, 1) := by decide +kernel
theorem dX4_note_40 : decode cX4_note 40 = .ok (.dup, 1) := by decide +kernel
theorem dX4_note_41 : decode cX4_note 41 = .ok (.getfield 48, 3) := by decide +kernel
theorem dX4_note_44 : decode cX4_note 44 = .ok (.iconst 1, 1) := by decide +kernel
theorem dX4_note_45 : decode cX4_note 45 = .ok (.isub, 1) := by decide +kernel
theorem dX4_note_46 : decode cX4_note 46 = .ok (.putfield 48, 3) := by decide +kernel
theorem dX4_note_49 : decode cX4_note 49 = .ok (.iconst 0, 1) := by decide +kernel
theorem dX4_note_50 : decode cX4_note 50 = .ok (.istore_n 1, 1) := by decide +kernel
theorem dX4_note_51 : decode cX4_note 51 = .ok (.iload_n 1, 1) := by decide +kernel
theorem dX4_note_52 : decode cX4_note 52 = .ok (.bipush 36, 2) := by decide +kernel
theorem dX4_note_54 : decode cX4_note 54 = .ok (.if_icmp .ge 29, 3) := by decide +kernel
theorem dX4_note_57 : decode cX4_note 57 = .ok (.aload_n 0, 1) := by decide +kernel
theorem dX4_note_58 : decode cX4_note 58 = .ok (.getfield 22, 3) := by decide +kernel
theorem dX4_note_61 : decode cX4_note 61 = .ok (.bipush 36, 2) := by decide +kernel
theorem dX4_note_63 : decode cX4_note 63 = .ok (.aload_n 0, 1) := by decide +kernel
theorem dX4_note_64 : decode cX4_note 64 = .ok (.getfield 48, 3) := by decide +kernel
theorem dX4_note_67 : decode cX4_note 67 = .ok (.imul, 1) := by decide +kernel
theorem dX4_note_68 : decode cX4_note 68 = .ok (.iload_n 1, 1) := by decide +kernel
theorem dX4_note_69 : decode cX4_note 69 = .ok (.iadd, 1) := by decide +kernel
theorem dX4_note_70 : decode cX4_note 70 = .ok (.aload_n 0, 1) := by decide +kernel
theorem dX4_note_71 : decode cX4_note 71 = .ok (.getfield 16, 3) := by decide +kernel
theorem dX4_note_74 : decode cX4_note 74 = .ok (.iload_n 1, 1) := by decide +kernel
theorem dX4_note_75 : decode cX4_note 75 = .ok (.iaload, 1) := by decide +kernel
theorem dX4_note_76 : decode cX4_note 76 = .ok (.iastore, 1) := by decide +kernel
theorem dX4_note_77 : decode cX4_note 77 = .ok (.iinc 1 1, 3) := by decide +kernel
theorem dX4_note_80 : decode cX4_note 80 = .ok (.goto (-29), 3) := by decide +kernel
theorem dX4_note_83 : decode cX4_note 83 = .ok (.aload_n 0, 1) := by decide +kernel
theorem dX4_note_84 : decode cX4_note 84 = .ok (.dup, 1) := by decide +kernel
theorem dX4_note_85 : decode cX4_note 85 = .ok (.getfield 48, 3) := by decide +kernel
theorem dX4_note_88 : decode cX4_note 88 = .ok (.iconst 1, 1) := by decide +kernel
theorem dX4_note_89 : decode cX4_note 89 = .ok (.iadd, 1) := by decide +kernel
theorem dX4_note_90 : decode cX4_note 90 = .ok (.putfield 48, 3) := by decide +kernel
theorem dX4_note_93 : decode cX4_note 93 = .ok (.return_, 1) := by decide +kernel
theorem dX4_needs_0 : decode cX4_needs 0 = .ok (.iload_n 1, 1) := by decide +kernel
theorem dX4_needs_1 : decode cX4_needs 1 = .ok (.iconst 2, 1) := by decide +kernel
theorem dX4_needs_2 : decode cX4_needs 2 = .ok (.iconst 4, 1) := by decide +kernel
theorem dX4_needs_3 : decode cX4_needs 3 = .ok (.invokestatic 56, 3) := by decide +kernel
theorem dX4_needs_6 : decode cX4_needs 6 = .ok (.ifCond .ne 5, 3) := by decide +kernel
theorem dX4_needs_9 : decode cX4_needs 9 = .ok (.iconst (-1), 1) := by decide +kernel
theorem dX4_needs_10 : decode cX4_needs 10 = .ok (.ireturn, 1) := by decide +kernel
theorem dX4_needs_11 : decode cX4_needs 11 = .ok (.aload_n 0, 1) := by decide +kernel
theorem dX4_needs_12 : decode cX4_needs 12 = .ok (.getfield 16, 3) := by decide +kernel
theorem dX4_needs_15 : decode cX4_needs 15 = .ok (.iconst 0, 1) := by decide +kernel
theorem dX4_needs_16 : decode cX4_needs 16 = .ok (.iaload, 1) := by decide +kernel
theorem dX4_needs_17 : decode cX4_needs 17 = .ok (.istore_n 2, 1) := by decide +kernel
theorem dX4_needs_18 : decode cX4_needs 18 = .ok (.iload_n 2, 1) := by decide +kernel
theorem dX4_needs_19 : decode cX4_needs 19 = .ok (.iload_n 1, 1) := by decide +kernel
theorem dX4_needs_20 : decode cX4_needs 20 = .ok (.if_icmp .ne 6, 3) := by decide +kernel
theorem dX4_needs_23 : decode cX4_needs 23 = .ok (.bipush (-2), 2) := by decide +kernel
theorem dX4_needs_25 : decode cX4_needs 25 = .ok (.ireturn, 1) := by decide +kernel
theorem dX4_needs_26 : decode cX4_needs 26 = .ok (.aload_n 0, 1) := by decide +kernel
theorem dX4_needs_27 : decode cX4_needs 27 = .ok (.invokevirtual 158, 3) := by decide +kernel
theorem dX4_needs_30 : decode cX4_needs 30 = .ok (.aload_n 0, 1) := by decide +kernel
theorem dX4_needs_31 : decode cX4_needs 31 = .ok (.getfield 16, 3) := by decide +kernel
theorem dX4_needs_34 : decode cX4_needs 34 = .ok (.iconst 0, 1) := by decide +kernel
theorem dX4_needs_35 : decode cX4_needs 35 = .ok (.iload_n 1, 1) := by decide +kernel
theorem dX4_needs_36 : decode cX4_needs 36 = .ok (.iastore, 1) := by decide +kernel
theorem dX4_needs_37 : decode cX4_needs 37 = .ok (.iload_n 2, 1) := by decide +kernel
theorem dX4_needs_38 : decode cX4_needs 38 = .ok (.ireturn, 1) := by decide +kernel
theorem dX4_isInput_0 : decode cX4_isInput 0 = .ok (.aload_n 0, 1) := by decide +kernel
theorem dX4_isInput_1 : decode cX4_isInput 1 = .ok (.iload_n 1, 1) := by decide +kernel
theorem dX4_isInput_2 : decode cX4_isInput 2 = .ok (.invokevirtual 60, 3) := by decide +kernel
theorem dX4_isInput_5 : decode cX4_isInput 5 = .ok (.ifCond .eq 15, 3) := by decide +kernel
theorem dX4_isInput_8 : decode cX4_isInput 8 = .ok (.aload_n 0, 1) := by decide +kernel
theorem dX4_isInput_9 : decode cX4_isInput 9 = .ok (.iload_n 1, 1) := by decide +kernel
theorem dX4_isInput_10 : decode cX4_isInput 10 = .ok (.invokevirtual 64, 3) := by decide +kernel
theorem dX4_isInput_13 : decode cX4_isInput 13 = .ok (.ifCond .ne 7, 3) := by decide +kernel
theorem dX4_isInput_16 : decode cX4_isInput 16 = .ok (.iconst 1, 1) := by decide +kernel
theorem dX4_isInput_17 : decode cX4_isInput 17 = .ok (.goto 4, 3) := by decide +kernel
theorem dX4_isInput_20 : decode cX4_isInput 20 = .ok (.iconst 0, 1) := by decide +kernel
theorem dX4_isInput_21 : decode cX4_isInput 21 = .ok (.ireturn, 1) := by decide +kernel
theorem dX4_wishes_0 : decode cX4_wishes 0 = .ok (.aload_n 0, 1) := by decide +kernel
theorem dX4_wishes_1 : decode cX4_wishes 1 = .ok (.iload_n 1, 1) := by decide +kernel
theorem dX4_wishes_2 : decode cX4_wishes 2 = .ok (.invokevirtual 161, 3) := by decide +kernel
theorem dX4_wishes_5 : decode cX4_wishes 5 = .ok (.ifCond .eq 12, 3) := by decide +kernel
theorem dX4_wishes_8 : decode cX4_wishes 8 = .ok (.iload_n 2, 1) := by decide +kernel
theorem dX4_wishes_9 : decode cX4_wishes 9 = .ok (.iconst 0, 1) := by decide +kernel
theorem dX4_wishes_10 : decode cX4_wishes 10 = .ok (.iconst 1, 1) := by decide +kernel
theorem dX4_wishes_11 : decode cX4_wishes 11 = .ok (.invokestatic 56, 3) := by decide +kernel
theorem dX4_wishes_14 : decode cX4_wishes 14 = .ok (.ifCond .ne 5, 3) := by decide +kernel
theorem dX4_wishes_17 : decode cX4_wishes 17 = .ok (.iconst (-1), 1) := by decide +kernel
theorem dX4_wishes_18 : decode cX4_wishes 18 = .ok (.ireturn, 1) := by decide +kernel
theorem dX4_wishes_19 : decode cX4_wishes 19 = .ok (.aload_n 0, 1) := by decide +kernel
theorem dX4_wishes_20 : decode cX4_wishes 20 = .ok (.getfield 16, 3) := by decide +kernel
theorem dX4_wishes_23 : decode cX4_wishes 23 = .ok (.bipush 20, 2) := by decide +kernel
theorem dX4_wishes_25 : decode cX4_wishes 25 = .ok (.iload_n 1, 1) := by decide +kernel
theorem dX4_wishes_26 : decode cX4_wishes 26 = .ok (.iadd, 1) := by decide +kernel
theorem dX4_wishes_27 : decode cX4_wishes 27 = .ok (.iaload, 1) := by decide +kernel
theorem dX4_wishes_28 : decode cX4_wishes 28 = .ok (.istore_n 3, 1) := by decide +kernel
theorem dX4_wishes_29 : decode cX4_wishes 29 = .ok (.iload_n 3, 1) := by decide +kernel
theorem dX4_wishes_30 : decode cX4_wishes 30 = .ok (.iload_n 2, 1) := by decide +kernel
theorem dX4_wishes_31 : decode cX4_wishes 31 = .ok (.if_icmp .ne 6, 3) := by decide +kernel
theorem dX4_wishes_34 : decode cX4_wishes 34 = .ok (.bipush (-2), 2) := by decide +kernel
theorem dX4_wishes_36 : decode cX4_wishes 36 = .ok (.ireturn, 1) := by decide +kernel
theorem dX4_wishes_37 : decode cX4_wishes 37 = .ok (.aload_n 0, 1) := by decide +kernel
theorem dX4_wishes_38 : decode cX4_wishes 38 = .ok (.invokevirtual 158, 3) := by decide +kernel
theorem dX4_wishes_41 : decode cX4_wishes 41 = .ok (.aload_n 0, 1) := by decide +kernel
theorem dX4_wishes_42 : decode cX4_wishes 42 = .ok (.getfield 16, 3) := by decide +kernel
theorem dX4_wishes_45 : decode cX4_wishes 45 = .ok (.bipush 20, 2) := by decide +kernel
theorem dX4_wishes_47 : decode cX4_wishes 47 = .ok (.iload_n 1, 1) := by decide +kernel
theorem dX4_wishes_48 : decode cX4_wishes 48 = .ok (.iadd, 1) := by decide +kernel
theorem dX4_wishes_49 : decode cX4_wishes 49 = .ok (.iload_n 2, 1) := by decide +kernel
theorem dX4_wishes_50 : decode cX4_wishes 50 = .ok (.iastore, 1) := by decide +kernel
theorem dX4_wishes_51 : decode cX4_wishes 51 = .ok (.iload_n 3, 1) := by decide +kernel
theorem dX4_wishes_52 : decode cX4_wishes 52 = .ok (.ireturn, 1) := by decide +kernel
theorem dX4_ticks_0 : decode cX4_ticks 0 = .ok (.iload_n 1, 1) := by decide +kernel
theorem dX4_ticks_1 : decode cX4_ticks 1 = .ok (.iconst 1, 1) := by decide +kernel
theorem dX4_ticks_2 : decode cX4_ticks 2 = .ok (.bipush 99, 2) := by decide +kernel
theorem dX4_ticks_4 : decode cX4_ticks 4 = .ok (.invokestatic 56, 3) := by decide +kernel
theorem dX4_ticks_7 : decode cX4_ticks 7 = .ok (.ifCond .ne 5, 3) := by decide +kernel
theorem dX4_ticks_10 : decode cX4_ticks 10 = .ok (.iconst (-1), 1) := by decide +kernel
theorem dX4_ticks_11 : decode cX4_ticks 11 = .ok (.ireturn, 1) := by decide +kernel
theorem dX4_ticks_12 : decode cX4_ticks 12 = .ok (.aload_n 0, 1) := by decide +kernel
theorem dX4_ticks_13 : decode cX4_ticks 13 = .ok (.getfield 16, 3) := by decide +kernel
theorem dX4_ticks_16 : decode cX4_ticks 16 = .ok (.iconst 1, 1) := by decide +kernel
theorem dX4_ticks_17 : decode cX4_ticks 17 = .ok (.iaload, 1) := by decide +kernel
theorem dX4_ticks_18 : decode cX4_ticks 18 = .ok (.iload_n 1, 1) := by decide +kernel
theorem dX4_ticks_19 : decode cX4_ticks 19 = .ok (.iadd, 1) := by decide +kernel
theorem dX4_ticks_20 : decode cX4_ticks 20 = .ok (.sipush 999, 3) := by decide +kernel
theorem dX4_ticks_23 : decode cX4_ticks 23 = .ok (.if_icmp .le 6, 3) := by decide +kernel
theorem dX4_ticks_26 : decode cX4_ticks 26 = .ok (.bipush (-2), 2) := by decide +kernel
theorem dX4_ticks_28 : decode cX4_ticks 28 = .ok (.ireturn, 1) := by decide +kernel
theorem dX4_ticks_29 : decode cX4_ticks 29 = .ok (.aload_n 0, 1) := by decide +kernel
theorem dX4_ticks_30 : decode cX4_ticks 30 = .ok (.invokevirtual 158, 3) := by decide +kernel
theorem dX4_ticks_33 : decode cX4_ticks 33 = .ok (.aload_n 0, 1) := by decide +kernel
theorem dX4_ticks_34 : decode cX4_ticks 34 = .ok (.getfield 16, 3) := by decide +kernel
theorem dX4_ticks_37 : decode cX4_ticks 37 = .ok (.iconst 2, 1) := by decide +kernel
theorem dX4_ticks_38 : decode cX4_ticks 38 = .ok (.iaload, 1) := by decide +kernel
theorem dX4_ticks_39 : decode cX4_ticks 39 = .ok (.istore_n 2, 1) := by decide +kernel
theorem dX4_ticks_40 : decode cX4_ticks 40 = .ok (.iconst 0, 1) := by decide +kernel
theorem dX4_ticks_41 : decode cX4_ticks 41 = .ok (.istore_n 3, 1) := by decide +kernel
theorem dX4_ticks_42 : decode cX4_ticks 42 = .ok (.iload_n 3, 1) := by decide +kernel
theorem dX4_ticks_43 : decode cX4_ticks 43 = .ok (.iload_n 1, 1) := by decide +kernel
theorem dX4_ticks_44 : decode cX4_ticks 44 = .ok (.if_icmp .ge 17, 3) := by decide +kernel
theorem dX4_ticks_47 : decode cX4_ticks 47 = .ok (.aload_n 0, 1) := by decide +kernel
theorem dX4_ticks_48 : decode cX4_ticks 48 = .ok (.aload_n 0, 1) := by decide +kernel
theorem dX4_ticks_49 : decode cX4_ticks 49 = .ok (.getfield 16, 3) := by decide +kernel
theorem dX4_ticks_52 : decode cX4_ticks 52 = .ok (.invokevirtual 164, 3) := by decide +kernel
theorem dX4_ticks_55 : decode cX4_ticks 55 = .ok (.iinc 3 1, 3) := by decide +kernel
theorem dX4_ticks_58 : decode cX4_ticks 58 = .ok (.goto (-16), 3) := by decide +kernel
theorem dX4_ticks_61 : decode cX4_ticks 61 = .ok (.aload_n 0, 1) := by decide +kernel
theorem dX4_ticks_62 : decode cX4_ticks 62 = .ok (.getfield 16, 3) := by decide +kernel
theorem dX4_ticks_65 : decode cX4_ticks 65 = .ok (.iconst 2, 1) := by decide +kernel
theorem dX4_ticks_66 : decode cX4_ticks 66 = .ok (.iaload, 1) := by decide +kernel
theorem dX4_ticks_67 : decode cX4_ticks 67 = .ok (.iload_n 2, 1) := by decide +kernel
theorem dX4_ticks_68 : decode cX4_ticks 68 = .ok (.isub, 1) := by decide +kernel
theorem dX4_ticks_69 : decode cX4_ticks 69 = .ok (.ireturn, 1) := by decide +kernel
theorem dX4_undo_0 : decode cX4_undo 0 = .ok (.aload_n 0, 1) := by decide +kernel
theorem dX4_undo_1 : decode cX4_undo 1 = .ok (.getfield 48, 3) := by decide +kernel
theorem dX4_undo_4 : decode cX4_undo 4 = .ok (.ifCond .ne 6, 3) := by decide +kernel
theorem dX4_undo_7 : decode cX4_undo 7 = .ok (.bipush (-2), 2) := by decide +kernel
theorem dX4_undo_9 : decode cX4_undo 9 = .ok (.ireturn, 1) := by decide +kernel
theorem dX4_undo_10 : decode cX4_undo 10 = .ok (.aload_n 0, 1) := by decide +kernel
theorem dX4_undo_11 : decode cX4_undo 11 = .ok (.dup, 1) := by decide +kernel
theorem dX4_undo_12 : decode cX4_undo 12 = .ok (.getfield 48, 3) := by decide +kernel
theorem dX4_undo_15 : decode cX4_undo 15 = .ok (.iconst 1, 1) := by decide +kernel
theorem dX4_undo_16 : decode cX4_undo 16 = .ok (.isub, 1) := by decide +kernel
theorem dX4_undo_17 : decode cX4_undo 17 = .ok (.putfield 48, 3) := by decide +kernel
theorem dX4_undo_20 : decode cX4_undo 20 = .ok (.iconst 0, 1) := by decide +kernel
theorem dX4_undo_21 : decode cX4_undo 21 = .ok (.istore_n 1, 1) := by decide +kernel
theorem dX4_undo_22 : decode cX4_undo 22 = .ok (.iload_n 1, 1) := by decide +kernel
theorem dX4_undo_23 : decode cX4_undo 23 = .ok (.bipush 36, 2) := by decide +kernel
theorem dX4_undo_25 : decode cX4_undo 25 = .ok (.if_icmp .ge 29, 3) := by decide +kernel
theorem dX4_undo_28 : decode cX4_undo 28 = .ok (.aload_n 0, 1) := by decide +kernel
theorem dX4_undo_29 : decode cX4_undo 29 = .ok (.getfield 16, 3) := by decide +kernel
theorem dX4_undo_32 : decode cX4_undo 32 = .ok (.iload_n 1, 1) := by decide +kernel
theorem dX4_undo_33 : decode cX4_undo 33 = .ok (.aload_n 0, 1) := by decide +kernel
theorem dX4_undo_34 : decode cX4_undo 34 = .ok (.getfield 22, 3) := by decide +kernel
theorem dX4_undo_37 : decode cX4_undo 37 = .ok (.bipush 36, 2) := by decide +kernel
theorem dX4_undo_39 : decode cX4_undo 39 = .ok (.aload_n 0, 1) := by decide +kernel
theorem dX4_undo_40 : decode cX4_undo 40 = .ok (.getfield 48, 3) := by decide +kernel
theorem dX4_undo_43 : decode cX4_undo 43 = .ok (.imul, 1) := by decide +kernel
theorem dX4_undo_44 : decode cX4_undo 44 = .ok (.iload_n 1, 1) := by decide +kernel
theorem dX4_undo_45 : decode cX4_undo 45 = .ok (.iadd, 1) := by decide +kernel
theorem dX4_undo_46 : decode cX4_undo 46 = .ok (.iaload, 1) := by decide +kernel
theorem dX4_undo_47 : decode cX4_undo 47 = .ok (.iastore, 1) := by decide +kernel
theorem dX4_undo_48 : decode cX4_undo 48 = .ok (.iinc 1 1, 3) := by decide +kernel
theorem dX4_undo_51 : decode cX4_undo 51 = .ok (.goto (-29), 3) := by decide +kernel
theorem dX4_undo_54 : decode cX4_undo 54 = .ok (.aload_n 0, 1) := by decide +kernel
theorem dX4_undo_55 : decode cX4_undo 55 = .ok (.getfield 48, 3) := by decide +kernel
theorem dX4_undo_58 : decode cX4_undo 58 = .ok (.ireturn, 1) := by decide +kernel
theorem dX4_node_0 : decode cX4_node 0 = .ok (.aload_n 0, 1) := by decide +kernel
theorem dX4_node_1 : decode cX4_node 1 = .ok (.iload_n 1, 1) := by decide +kernel
theorem dX4_node_2 : decode cX4_node 2 = .ok (.invokevirtual 60, 3) := by decide +kernel
theorem dX4_node_5 : decode cX4_node 5 = .ok (.ifCond .ne 5, 3) := by decide +kernel
theorem dX4_node_8 : decode cX4_node 8 = .ok (.iconst (-1), 1) := by decide +kernel
theorem dX4_node_9 : decode cX4_node 9 = .ok (.ireturn, 1) := by decide +kernel
theorem dX4_node_10 : decode cX4_node 10 = .ok (.iload_n 2, 1) := by decide +kernel
theorem dX4_node_11 : decode cX4_node 11 = .ok (.tableswitch 125 0 7 #[45, 51, 70, 70, 70, 98, 104, 110], 45) := by decide +kernel
theorem dX4_node_56 : decode cX4_node 56 = .ok (.aload_n 0, 1) := by decide +kernel
theorem dX4_node_57 : decode cX4_node 57 = .ok (.iload_n 1, 1) := by decide +kernel
theorem dX4_node_58 : decode cX4_node 58 = .ok (.invokevirtual 64, 3) := by decide +kernel
theorem dX4_node_61 : decode cX4_node 61 = .ok (.ireturn, 1) := by decide +kernel
theorem dX4_node_62 : decode cX4_node 62 = .ok (.aload_n 0, 1) := by decide +kernel
theorem dX4_node_63 : decode cX4_node 63 = .ok (.iload_n 1, 1) := by decide +kernel
theorem dX4_node_64 : decode cX4_node 64 = .ok (.invokevirtual 75, 3) := by decide +kernel
theorem dX4_node_67 : decode cX4_node 67 = .ok (.ifCond .eq 11, 3) := by decide +kernel
theorem dX4_node_70 : decode cX4_node 70 = .ok (.aload_n 0, 1) := by decide +kernel
theorem dX4_node_71 : decode cX4_node 71 = .ok (.iload_n 1, 1) := by decide +kernel
theorem dX4_node_72 : decode cX4_node 72 = .ok (.invokevirtual 88, 3) := by decide +kernel
theorem dX4_node_75 : decode cX4_node 75 = .ok (.goto 5, 3) := by decide +kernel
theorem dX4_node_78 : decode cX4_node 78 = .ok (.bipush (-9), 2) := by decide +kernel
theorem dX4_node_80 : decode cX4_node 80 = .ok (.ireturn, 1) := by decide +kernel
theorem dX4_node_81 : decode cX4_node 81 = .ok (.iload_n 2, 1) := by decide +kernel
theorem dX4_node_82 : decode cX4_node 82 = .ok (.iconst 2, 1) := by decide +kernel
theorem dX4_node_83 : decode cX4_node 83 = .ok (.isub, 1) := by decide +kernel
theorem dX4_node_84 : decode cX4_node 84 = .ok (.aload_n 0, 1) := by decide +kernel
theorem dX4_node_85 : decode cX4_node 85 = .ok (.iload_n 1, 1) := by decide +kernel
theorem dX4_node_86 : decode cX4_node 86 = .ok (.invokevirtual 64, 3) := by decide +kernel
theorem dX4_node_89 : decode cX4_node 89 = .ok (.invokestatic 68, 3) := by decide +kernel
theorem dX4_node_92 : decode cX4_node 92 = .ok (.if_icmp .ge 14, 3) := by decide +kernel
theorem dX4_node_95 : decode cX4_node 95 = .ok (.aload_n 0, 1) := by decide +kernel
theorem dX4_node_96 : decode cX4_node 96 = .ok (.iload_n 1, 1) := by decide +kernel
theorem dX4_node_97 : decode cX4_node 97 = .ok (.iload_n 2, 1) := by decide +kernel
theorem dX4_node_98 : decode cX4_node 98 = .ok (.iconst 2, 1) := by decide +kernel
theorem dX4_node_99 : decode cX4_node 99 = .ok (.isub, 1) := by decide +kernel
theorem dX4_node_100 : decode cX4_node 100 = .ok (.invokevirtual 71, 3) := by decide +kernel
theorem dX4_node_103 : decode cX4_node 103 = .ok (.goto 5, 3) := by decide +kernel
theorem dX4_node_106 : decode cX4_node 106 = .ok (.bipush (-9), 2) := by decide +kernel
theorem dX4_node_108 : decode cX4_node 108 = .ok (.ireturn, 1) := by decide +kernel
theorem dX4_node_109 : decode cX4_node 109 = .ok (.aload_n 0, 1) := by decide +kernel
theorem dX4_node_110 : decode cX4_node 110 = .ok (.iload_n 1, 1) := by decide +kernel
theorem dX4_node_111 : decode cX4_node 111 = .ok (.invokevirtual 106, 3) := by decide +kernel
theorem dX4_node_114 : decode cX4_node 114 = .ok (.ireturn, 1) := by decide +kernel
theorem dX4_node_115 : decode cX4_node 115 = .ok (.aload_n 0, 1) := by decide +kernel
theorem dX4_node_116 : decode cX4_node 116 = .ok (.iload_n 1, 1) := by decide +kernel
theorem dX4_node_117 : decode cX4_node 117 = .ok (.invokevirtual 81, 3) := by decide +kernel
theorem dX4_node_120 : decode cX4_node 120 = .ok (.ireturn, 1) := by decide +kernel
theorem dX4_node_121 : decode cX4_node 121 = .ok (.aload_n 0, 1) := by decide +kernel
theorem dX4_node_122 : decode cX4_node 122 = .ok (.aload_n 0, 1) := by decide +kernel
theorem dX4_node_123 : decode cX4_node 123 = .ok (.getfield 16, 3) := by decide +kernel
theorem dX4_node_126 : decode cX4_node 126 = .ok (.invokevirtual 149, 3) := by decide +kernel
theorem dX4_node_129 : decode cX4_node 129 = .ok (.aload_n 0, 1) := by decide +kernel
theorem dX4_node_130 : decode cX4_node 130 = .ok (.getfield 35, 3) := by decide +kernel
theorem dX4_node_133 : decode cX4_node 133 = .ok (.iload_n 1, 1) := by decide +kernel
theorem dX4_node_134 : decode cX4_node 134 = .ok (.iaload, 1) := by decide +kernel
theorem dX4_node_135 : decode cX4_node 135 = .ok (.ireturn, 1) := by decide +kernel
theorem dX4_node_136 : decode cX4_node 136 = .ok (.iconst (-1), 1) := by decide +kernel
theorem dX4_node_137 : decode cX4_node 137 = .ok (.ireturn, 1) := by decide +kernel
theorem dX4_register_0 : decode cX4_register 0 = .ok (.aload_n 0, 1) := by decide +kernel
theorem dX4_register_1 : decode cX4_register 1 = .ok (.iload_n 1, 1) := by decide +kernel
theorem dX4_register_2 : decode cX4_register 2 = .ok (.invokevirtual 167, 3) := by decide +kernel
theorem dX4_register_5 : decode cX4_register 5 = .ok (.ifCond .eq 12, 3) := by decide +kernel
theorem dX4_register_8 : decode cX4_register 8 = .ok (.iload_n 2, 1) := by decide +kernel
theorem dX4_register_9 : decode cX4_register 9 = .ok (.iconst 0, 1) := by decide +kernel
theorem dX4_register_10 : decode cX4_register 10 = .ok (.iconst 2, 1) := by decide +kernel
theorem dX4_register_11 : decode cX4_register 11 = .ok (.invokestatic 56, 3) := by decide +kernel
theorem dX4_register_14 : decode cX4_register 14 = .ok (.ifCond .ne 5, 3) := by decide +kernel
theorem dX4_register_17 : decode cX4_register 17 = .ok (.iconst (-1), 1) := by decide +kernel
theorem dX4_register_18 : decode cX4_register 18 = .ok (.ireturn, 1) := by decide +kernel
theorem dX4_register_19 : decode cX4_register 19 = .ok (.iload_n 2, 1) := by decide +kernel
theorem dX4_register_20 : decode cX4_register 20 = .ok (.ifCond .ne 11, 3) := by decide +kernel
theorem dX4_register_23 : decode cX4_register 23 = .ok (.aload_n 0, 1) := by decide +kernel
theorem dX4_register_24 : decode cX4_register 24 = .ok (.iload_n 1, 1) := by decide +kernel
theorem dX4_register_25 : decode cX4_register 25 = .ok (.invokevirtual 91, 3) := by decide +kernel
theorem dX4_register_28 : decode cX4_register 28 = .ok (.goto 21, 3) := by decide +kernel
theorem dX4_register_31 : decode cX4_register 31 = .ok (.iload_n 2, 1) := by decide +kernel
theorem dX4_register_32 : decode cX4_register 32 = .ok (.iconst 1, 1) := by decide +kernel
theorem dX4_register_33 : decode cX4_register 33 = .ok (.if_icmp .ne 11, 3) := by decide +kernel
theorem dX4_register_36 : decode cX4_register 36 = .ok (.aload_n 0, 1) := by decide +kernel
theorem dX4_register_37 : decode cX4_register 37 = .ok (.iload_n 1, 1) := by decide +kernel
theorem dX4_register_38 : decode cX4_register 38 = .ok (.invokevirtual 103, 3) := by decide +kernel
theorem dX4_register_41 : decode cX4_register 41 = .ok (.goto 8, 3) := by decide +kernel
theorem dX4_register_44 : decode cX4_register 44 = .ok (.aload_n 0, 1) := by decide +kernel
theorem dX4_register_45 : decode cX4_register 45 = .ok (.iload_n 1, 1) := by decide +kernel
theorem dX4_register_46 : decode cX4_register 46 = .ok (.invokevirtual 118, 3) := by decide +kernel
theorem dX4_register_49 : decode cX4_register 49 = .ok (.ireturn, 1) := by decide +kernel
theorem dX4_crossing_0 : decode cX4_crossing 0 = .ok (.iload_n 1, 1) := by decide +kernel
theorem dX4_crossing_1 : decode cX4_crossing 1 = .ok (.iconst (-1), 1) := by decide +kernel
theorem dX4_crossing_2 : decode cX4_crossing 2 = .ok (.if_icmp .ge 5, 3) := by decide +kernel
theorem dX4_crossing_5 : decode cX4_crossing 5 = .ok (.iconst (-1), 1) := by decide +kernel
theorem dX4_crossing_6 : decode cX4_crossing 6 = .ok (.ireturn, 1) := by decide +kernel
theorem dX4_crossing_7 : decode cX4_crossing 7 = .ok (.iconst 0, 1) := by decide +kernel
theorem dX4_crossing_8 : decode cX4_crossing 8 = .ok (.istore_n 2, 1) := by decide +kernel
theorem dX4_crossing_9 : decode cX4_crossing 9 = .ok (.iconst 0, 1) := by decide +kernel
theorem dX4_crossing_10 : decode cX4_crossing 10 = .ok (.istore_n 3, 1) := by decide +kernel
theorem dX4_crossing_11 : decode cX4_crossing 11 = .ok (.iload_n 3, 1) := by decide +kernel
theorem dX4_crossing_12 : decode cX4_crossing 12 = .ok (.aload_n 0, 1) := by decide +kernel
theorem dX4_crossing_13 : decode cX4_crossing 13 = .ok (.invokevirtual 52, 3) := by decide +kernel
theorem dX4_crossing_16 : decode cX4_crossing 16 = .ok (.if_icmp .ge 29, 3) := by decide +kernel
theorem dX4_crossing_19 : decode cX4_crossing 19 = .ok (.aload_n 0, 1) := by decide +kernel
theorem dX4_crossing_20 : decode cX4_crossing 20 = .ok (.iload_n 3, 1) := by decide +kernel
theorem dX4_crossing_21 : decode cX4_crossing 21 = .ok (.invokevirtual 170, 3) := by decide +kernel
theorem dX4_crossing_24 : decode cX4_crossing 24 = .ok (.bipush (-9), 2) := by decide +kernel
theorem dX4_crossing_26 : decode cX4_crossing 26 = .ok (.if_icmp .eq 13, 3) := by decide +kernel
theorem dX4_crossing_29 : decode cX4_crossing 29 = .ok (.iload_n 2, 1) := by decide +kernel
theorem dX4_crossing_30 : decode cX4_crossing 30 = .ok (.iload_n 1, 1) := by decide +kernel
theorem dX4_crossing_31 : decode cX4_crossing 31 = .ok (.if_icmp .ne 5, 3) := by decide +kernel
theorem dX4_crossing_34 : decode cX4_crossing 34 = .ok (.iload_n 3, 1) := by decide +kernel
theorem dX4_crossing_35 : decode cX4_crossing 35 = .ok (.ireturn, 1) := by decide +kernel
theorem dX4_crossing_36 : decode cX4_crossing 36 = .ok (.iinc 2 1, 3) := by decide +kernel
theorem dX4_crossing_39 : decode cX4_crossing 39 = .ok (.iinc 3 1, 3) := by decide +kernel
theorem dX4_crossing_42 : decode cX4_crossing 42 = .ok (.goto (-31), 3) := by decide +kernel
theorem dX4_crossing_45 : decode cX4_crossing 45 = .ok (.iload_n 1, 1) := by decide +kernel
theorem dX4_crossing_46 : decode cX4_crossing 46 = .ok (.ifCond .ge 7, 3) := by decide +kernel
theorem dX4_crossing_49 : decode cX4_crossing 49 = .ok (.iload_n 2, 1) := by decide +kernel
theorem dX4_crossing_50 : decode cX4_crossing 50 = .ok (.goto 5, 3) := by decide +kernel
theorem dX4_crossing_53 : decode cX4_crossing 53 = .ok (.bipush (-9), 2) := by decide +kernel
theorem dX4_crossing_55 : decode cX4_crossing 55 = .ok (.ireturn, 1) := by decide +kernel
theorem dX4_kinds_0 : decode cX4_kinds 0 = .ok (.iload_n 1, 1) := by decide +kernel
theorem dX4_kinds_1 : decode cX4_kinds 1 = .ok (.iconst 0, 1) := by decide +kernel
theorem dX4_kinds_2 : decode cX4_kinds 2 = .ok (.iconst 3, 1) := by decide +kernel
theorem dX4_kinds_3 : decode cX4_kinds 3 = .ok (.invokestatic 56, 3) := by decide +kernel
theorem dX4_kinds_6 : decode cX4_kinds 6 = .ok (.ifCond .ne 5, 3) := by decide +kernel
theorem dX4_kinds_9 : decode cX4_kinds 9 = .ok (.iconst (-1), 1) := by decide +kernel
theorem dX4_kinds_10 : decode cX4_kinds 10 = .ok (.ireturn, 1) := by decide +kernel
theorem dX4_kinds_11 : decode cX4_kinds 11 = .ok (.iconst 0, 1) := by decide +kernel
theorem dX4_kinds_12 : decode cX4_kinds 12 = .ok (.istore_n 2, 1) := by decide +kernel
theorem dX4_kinds_13 : decode cX4_kinds 13 = .ok (.iconst 0, 1) := by decide +kernel
theorem dX4_kinds_14 : decode cX4_kinds 14 = .ok (.istore_n 3, 1) := by decide +kernel
theorem dX4_kinds_15 : decode cX4_kinds 15 = .ok (.iload_n 3, 1) := by decide +kernel
theorem dX4_kinds_16 : decode cX4_kinds 16 = .ok (.aload_n 0, 1) := by decide +kernel
theorem dX4_kinds_17 : decode cX4_kinds 17 = .ok (.invokevirtual 52, 3) := by decide +kernel
theorem dX4_kinds_20 : decode cX4_kinds 20 = .ok (.if_icmp .ge 26, 3) := by decide +kernel
theorem dX4_kinds_23 : decode cX4_kinds 23 = .ok (.iload_n 2, 1) := by decide +kernel
theorem dX4_kinds_24 : decode cX4_kinds 24 = .ok (.aload_n 0, 1) := by decide +kernel
theorem dX4_kinds_25 : decode cX4_kinds 25 = .ok (.iload_n 3, 1) := by decide +kernel
theorem dX4_kinds_26 : decode cX4_kinds 26 = .ok (.invokevirtual 170, 3) := by decide +kernel
theorem dX4_kinds_29 : decode cX4_kinds 29 = .ok (.iload_n 1, 1) := by decide +kernel
theorem dX4_kinds_30 : decode cX4_kinds 30 = .ok (.if_icmp .ne 7, 3) := by decide +kernel
theorem dX4_kinds_33 : decode cX4_kinds 33 = .ok (.iconst 1, 1) := by decide +kernel
theorem dX4_kinds_34 : decode cX4_kinds 34 = .ok (.goto 4, 3) := by decide +kernel
theorem dX4_kinds_37 : decode cX4_kinds 37 = .ok (.iconst 0, 1) := by decide +kernel
theorem dX4_kinds_38 : decode cX4_kinds 38 = .ok (.iadd, 1) := by decide +kernel
theorem dX4_kinds_39 : decode cX4_kinds 39 = .ok (.istore_n 2, 1) := by decide +kernel
theorem dX4_kinds_40 : decode cX4_kinds 40 = .ok (.iinc 3 1, 3) := by decide +kernel
theorem dX4_kinds_43 : decode cX4_kinds 43 = .ok (.goto (-28), 3) := by decide +kernel
theorem dX4_kinds_46 : decode cX4_kinds 46 = .ok (.iload_n 2, 1) := by decide +kernel
theorem dX4_kinds_47 : decode cX4_kinds 47 = .ok (.ireturn, 1) := by decide +kernel
theorem dX4_join_0 : decode cX4_join 0 = .ok (.iload_n 1, 1) := by decide +kernel
theorem dX4_join_1 : decode cX4_join 1 = .ok (.iconst (-1), 1) := by decide +kernel
theorem dX4_join_2 : decode cX4_join 2 = .ok (.if_icmp .lt 20, 3) := by decide +kernel
theorem dX4_join_5 : decode cX4_join 5 = .ok (.iload_n 2, 1) := by decide +kernel
theorem dX4_join_6 : decode cX4_join 6 = .ok (.iconst 0, 1) := by decide +kernel
theorem dX4_join_7 : decode cX4_join 7 = .ok (.iload_n 1, 1) := by decide +kernel
theorem dX4_join_8 : decode cX4_join 8 = .ok (.ifCond .ge 7, 3) := by decide +kernel
theorem dX4_join_11 : decode cX4_join 11 = .ok (.iconst 0, 1) := by decide +kernel
theorem dX4_join_12 : decode cX4_join 12 = .ok (.goto 4, 3) := by decide +kernel
theorem dX4_join_15 : decode cX4_join 15 = .ok (.iconst 2, 1) := by decide +kernel
theorem dX4_join_16 : decode cX4_join 16 = .ok (.invokestatic 56, 3) := by decide +kernel
theorem dX4_join_19 : decode cX4_join 19 = .ok (.ifCond .ne 7, 3) := by decide +kernel
theorem dX4_join_22 : decode cX4_join 22 = .ok (.iconst (-1), 1) := by decide +kernel
theorem dX4_join_23 : decode cX4_join 23 = .ok (.goto 9, 3) := by decide +kernel
theorem dX4_join_26 : decode cX4_join 26 = .ok (.aload_n 0, 1) := by decide +kernel
