theorem dX2_readItem_11 : decode cX2_readItem 11 = .ok (.invokevirtual 51, 3) := by decide +kernel
theorem dX2_readItem_14 : decode cX2_readItem 14 = .ok (.ifCond .ne 11, 3) := by decide +kernel
theorem dX2_readItem_17 : decode cX2_readItem 17 = .ok (.aload_n 1, 1) := by decide +kernel
theorem dX2_readItem_18 : decode cX2_readItem 18 = .ok (.iload_n 2, 1) := by decide +kernel
theorem dX2_readItem_19 : decode cX2_readItem 19 = .ok (.invokevirtual 57, 3) := by decide +kernel
theorem dX2_readItem_22 : decode cX2_readItem 22 = .ok (.ifCond .ne 5, 3) := by decide +kernel
theorem dX2_readItem_25 : decode cX2_readItem 25 = .ok (.iconst 0, 1) := by decide +kernel
theorem dX2_readItem_26 : decode cX2_readItem 26 = .ok (.ireturn, 1) := by decide +kernel
theorem dX2_readItem_27 : decode cX2_readItem 27 = .ok (.iconst 0, 1) := by decide +kernel
theorem dX2_readItem_28 : decode cX2_readItem 28 = .ok (.istore 4, 2) := by decide +kernel
theorem dX2_readItem_30 : decode cX2_readItem 30 = .ok (.iload 4, 2) := by decide +kernel
theorem dX2_readItem_32 : decode cX2_readItem 32 = .ok (.aload_n 3, 1) := by decide +kernel
theorem dX2_readItem_33 : decode cX2_readItem 33 = .ok (.invokevirtual 61, 3) := by decide +kernel
theorem dX2_readItem_36 : decode cX2_readItem 36 = .ok (.if_icmp .ge 63, 3) := by decide +kernel
theorem dX2_readItem_39 : decode cX2_readItem 39 = .ok (.iload 4, 2) := by decide +kernel
theorem dX2_readItem_41 : decode cX2_readItem 41 = .ok (.iconst 3, 1) := by decide +kernel
theorem dX2_readItem_42 : decode cX2_readItem 42 = .ok (.if_icmp .ge 57, 3) := by decide +kernel
theorem dX2_readItem_45 : decode cX2_readItem 45 = .ok (.aload_n 0, 1) := by decide +kernel
theorem dX2_readItem_46 : decode cX2_readItem 46 = .ok (.invokevirtual 31, 3) := by decide +kernel
theorem dX2_readItem_49 : decode cX2_readItem 49 = .ok (.aload_n 0, 1) := by decide +kernel
theorem dX2_readItem_50 : decode cX2_readItem 50 = .ok (.getfield 34, 3) := by decide +kernel
theorem dX2_readItem_53 : decode cX2_readItem 53 = .ok (.iconst (-1), 1) := by decide +kernel
theorem dX2_readItem_54 : decode cX2_readItem 54 = .ok (.if_icmp .ne 26, 3) := by decide +kernel
theorem dX2_readItem_57 : decode cX2_readItem 57 = .ok (.aload_n 1, 1) := by decide +kernel
theorem dX2_readItem_58 : decode cX2_readItem 58 = .ok (.aload_n 3, 1) := by decide +kernel
theorem dX2_readItem_59 : decode cX2_readItem 59 = .ok (.iload 4, 2) := by decide +kernel
theorem dX2_readItem_61 : decode cX2_readItem 61 = .ok (.invokevirtual 65, 3) := by decide +kernel
theorem dX2_readItem_64 : decode cX2_readItem 64 = .ok (.aload_n 0, 1) := by decide +kernel
theorem dX2_readItem_65 : decode cX2_readItem 65 = .ok (.getfield 69, 3) := by decide +kernel
theorem dX2_readItem_68 : decode cX2_readItem 68 = .ok (.aload_n 0, 1) := by decide +kernel
theorem dX2_readItem_69 : decode cX2_readItem 69 = .ok (.getfield 15, 3) := by decide +kernel
theorem dX2_readItem_72 : decode cX2_readItem 72 = .ok (.iconst 0, 1) := by decide +kernel
theorem dX2_readItem_73 : decode cX2_readItem 73 = .ok (.iaload, 1) := by decide +kernel
theorem dX2_readItem_74 : decode cX2_readItem 74 = .ok (.invokevirtual 72, 3) := by decide +kernel
theorem dX2_readItem_77 : decode cX2_readItem 77 = .ok (.ifCond .ne 5, 3) := by decide +kernel
theorem dX2_readItem_80 : decode cX2_readItem 80 = .ok (.iconst 0, 1) := by decide +kernel
theorem dX2_readItem_81 : decode cX2_readItem 81 = .ok (.ireturn, 1) := by decide +kernel
theorem dX2_readItem_82 : decode cX2_readItem 82 = .ok (.aload_n 0, 1) := by decide +kernel
theorem dX2_readItem_83 : decode cX2_readItem 83 = .ok (.getfield 15, 3) := by decide +kernel
theorem dX2_readItem_86 : decode cX2_readItem 86 = .ok (.iload 4, 2) := by decide +kernel
theorem dX2_readItem_88 : decode cX2_readItem 88 = .ok (.aload_n 0, 1) := by decide +kernel
theorem dX2_readItem_89 : decode cX2_readItem 89 = .ok (.getfield 69, 3) := by decide +kernel
theorem dX2_readItem_92 : decode cX2_readItem 92 = .ok (.iastore, 1) := by decide +kernel
theorem dX2_readItem_93 : decode cX2_readItem 93 = .ok (.iinc 4 1, 3) := by decide +kernel
theorem dX2_readItem_96 : decode cX2_readItem 96 = .ok (.goto (-66), 3) := by decide +kernel
theorem dX2_readItem_99 : decode cX2_readItem 99 = .ok (.aload_n 0, 1) := by decide +kernel
theorem dX2_readItem_100 : decode cX2_readItem 100 = .ok (.invokevirtual 31, 3) := by decide +kernel
theorem dX2_readItem_103 : decode cX2_readItem 103 = .ok (.aload_n 0, 1) := by decide +kernel
theorem dX2_readItem_104 : decode cX2_readItem 104 = .ok (.getfield 34, 3) := by decide +kernel
theorem dX2_readItem_107 : decode cX2_readItem 107 = .ok (.bipush 59, 2) := by decide +kernel
theorem dX2_readItem_109 : decode cX2_readItem 109 = .ok (.if_icmp .eq 5, 3) := by decide +kernel
theorem dX2_readItem_112 : decode cX2_readItem 112 = .ok (.iconst 0, 1) := by decide +kernel
theorem dX2_readItem_113 : decode cX2_readItem 113 = .ok (.ireturn, 1) := by decide +kernel
theorem dX2_readItem_114 : decode cX2_readItem 114 = .ok (.aload_n 1, 1) := by decide +kernel
theorem dX2_readItem_115 : decode cX2_readItem 115 = .ok (.iload_n 2, 1) := by decide +kernel
theorem dX2_readItem_116 : decode cX2_readItem 116 = .ok (.aload_n 0, 1) := by decide +kernel
theorem dX2_readItem_117 : decode cX2_readItem 117 = .ok (.getfield 15, 3) := by decide +kernel
theorem dX2_readItem_120 : decode cX2_readItem 120 = .ok (.iconst 0, 1) := by decide +kernel
theorem dX2_readItem_121 : decode cX2_readItem 121 = .ok (.iaload, 1) := by decide +kernel
theorem dX2_readItem_122 : decode cX2_readItem 122 = .ok (.aload_n 0, 1) := by decide +kernel
theorem dX2_readItem_123 : decode cX2_readItem 123 = .ok (.getfield 15, 3) := by decide +kernel
theorem dX2_readItem_126 : decode cX2_readItem 126 = .ok (.iconst 1, 1) := by decide +kernel
theorem dX2_readItem_127 : decode cX2_readItem 127 = .ok (.iaload, 1) := by decide +kernel
theorem dX2_readItem_128 : decode cX2_readItem 128 = .ok (.aload_n 0, 1) := by decide +kernel
theorem dX2_readItem_129 : decode cX2_readItem 129 = .ok (.getfield 15, 3) := by decide +kernel
theorem dX2_readItem_132 : decode cX2_readItem 132 = .ok (.iconst 2, 1) := by decide +kernel
theorem dX2_readItem_133 : decode cX2_readItem 133 = .ok (.iaload, 1) := by decide +kernel
theorem dX2_readItem_134 : decode cX2_readItem 134 = .ok (.invokevirtual 76, 3) := by decide +kernel
theorem dX2_readItem_137 : decode cX2_readItem 137 = .ok (.iconst 1, 1) := by decide +kernel
theorem dX2_readItem_138 : decode cX2_readItem 138 = .ok (.ireturn, 1) := by decide +kernel
theorem dX2_shapeOf_0 : decode cX2_shapeOf 0 = .ok (.iload_n 0, 1) := by decide +kernel
theorem dX2_shapeOf_1 : decode cX2_shapeOf 1 = .ok (.tableswitch 129 97 120 #[117, 129, 129, 129, 126, 129, 126, 129, 111, 129, 129, 129, 120, 129, 117, 123, 129, 114, 129, 129, 129, 129, 129, 117], 111) := by decide +kernel
theorem dX2_shapeOf_112 : decode cX2_shapeOf 112 = .ok (.ldc 80, 2) := by decide +kernel
theorem dX2_shapeOf_114 : decode cX2_shapeOf 114 = .ok (.areturn, 1) := by decide +kernel
theorem dX2_shapeOf_115 : decode cX2_shapeOf 115 = .ok (.ldc 82, 2) := by decide +kernel
theorem dX2_shapeOf_117 : decode cX2_shapeOf 117 = .ok (.areturn, 1) := by decide +kernel
theorem dX2_shapeOf_118 : decode cX2_shapeOf 118 = .ok (.ldc 84, 2) := by decide +kernel
theorem dX2_shapeOf_120 : decode cX2_shapeOf 120 = .ok (.areturn, 1) := by decide +kernel
theorem dX2_shapeOf_121 : decode cX2_shapeOf 121 = .ok (.ldc 86, 2) := by decide +kernel
theorem dX2_shapeOf_123 : decode cX2_shapeOf 123 = .ok (.areturn, 1) := by decide +kernel
theorem dX2_shapeOf_124 : decode cX2_shapeOf 124 = .ok (.ldc 88, 2) := by decide +kernel
theorem dX2_shapeOf_126 : decode cX2_shapeOf 126 = .ok (.areturn, 1) := by decide +kernel
theorem dX2_shapeOf_127 : decode cX2_shapeOf 127 = .ok (.ldc 90, 2) := by decide +kernel
theorem dX2_shapeOf_129 : decode cX2_shapeOf 129 = .ok (.areturn, 1) := by decide +kernel
theorem dX2_shapeOf_130 : decode cX2_shapeOf 130 = .ok (.ldc 92, 2) := by decide +kernel
theorem dX2_shapeOf_132 : decode cX2_shapeOf 132 = .ok (.areturn, 1) := by decide +kernel
theorem dX2_readToken_0 : decode cX2_readToken 0 = .ok (.aload_n 0, 1) := by decide +kernel
theorem dX2_readToken_1 : decode cX2_readToken 1 = .ok (.getfield 28, 3) := by decide +kernel
theorem dX2_readToken_4 : decode cX2_readToken 4 = .ok (.aload_n 0, 1) := by decide +kernel
theorem dX2_readToken_5 : decode cX2_readToken 5 = .ok (.getfield 19, 3) := by decide +kernel
theorem dX2_readToken_8 : decode cX2_readToken 8 = .ok (.if_icmp .ge 30, 3) := by decide +kernel
theorem dX2_readToken_11 : decode cX2_readToken 11 = .ok (.aload_n 0, 1) := by decide +kernel
theorem dX2_readToken_12 : decode cX2_readToken 12 = .ok (.getfield 9, 3) := by decide +kernel
theorem dX2_readToken_15 : decode cX2_readToken 15 = .ok (.aload_n 0, 1) := by decide +kernel
theorem dX2_readToken_16 : decode cX2_readToken 16 = .ok (.getfield 28, 3) := by decide +kernel
theorem dX2_readToken_19 : decode cX2_readToken 19 = .ok (.caload, 1) := by decide +kernel
theorem dX2_readToken_20 : decode cX2_readToken 20 = .ok (.bipush 32, 2) := by decide +kernel
theorem dX2_readToken_22 : decode cX2_readToken 22 = .ok (.if_icmp .ne 16, 3) := by decide +kernel
theorem dX2_readToken_25 : decode cX2_readToken 25 = .ok (.aload_n 0, 1) := by decide +kernel
theorem dX2_readToken_26 : decode cX2_readToken 26 = .ok (.dup, 1) := by decide +kernel
theorem dX2_readToken_27 : decode cX2_readToken 27 = .ok (.getfield 28, 3) := by decide +kernel
theorem dX2_readToken_30 : decode cX2_readToken 30 = .ok (.iconst 1, 1) := by decide +kernel
theorem dX2_readToken_31 : decode cX2_readToken 31 = .ok (.iadd, 1) := by decide +kernel
theorem dX2_readToken_32 : decode cX2_readToken 32 = .ok (.putfield 28, 3) := by decide +kernel
theorem dX2_readToken_35 : decode cX2_readToken 35 = .ok (.goto (-35), 3) := by decide +kernel
theorem dX2_readToken_38 : decode cX2_readToken 38 = .ok (.aload_n 0, 1) := by decide +kernel
theorem dX2_readToken_39 : decode cX2_readToken 39 = .ok (.aload_n 0, 1) := by decide +kernel
theorem dX2_readToken_40 : decode cX2_readToken 40 = .ok (.getfield 28, 3) := by decide +kernel
theorem dX2_readToken_43 : decode cX2_readToken 43 = .ok (.putfield 44, 3) := by decide +kernel
theorem dX2_readToken_46 : decode cX2_readToken 46 = .ok (.aload_n 0, 1) := by decide +kernel
theorem dX2_readToken_47 : decode cX2_readToken 47 = .ok (.getfield 28, 3) := by decide +kernel
theorem dX2_readToken_50 : decode cX2_readToken 50 = .ok (.aload_n 0, 1) := by decide +kernel
theorem dX2_readToken_51 : decode cX2_readToken 51 = .ok (.getfield 19, 3) := by decide +kernel
theorem dX2_readToken_54 : decode cX2_readToken 54 = .ok (.if_icmp .lt 12, 3) := by decide +kernel
theorem dX2_readToken_57 : decode cX2_readToken 57 = .ok (.aload_n 0, 1) := by decide +kernel
theorem dX2_readToken_58 : decode cX2_readToken 58 = .ok (.bipush (-2), 2) := by decide +kernel
theorem dX2_readToken_60 : decode cX2_readToken 60 = .ok (.putfield 34, 3) := by decide +kernel
theorem dX2_readToken_63 : decode cX2_readToken 63 = .ok (.goto 48, 3) := by decide +kernel
theorem dX2_readToken_66 : decode cX2_readToken 66 = .ok (.aload_n 0, 1) := by decide +kernel
theorem dX2_readToken_67 : decode cX2_readToken 67 = .ok (.getfield 9, 3) := by decide +kernel
theorem dX2_readToken_70 : decode cX2_readToken 70 = .ok (.aload_n 0, 1) := by decide +kernel
theorem dX2_readToken_71 : decode cX2_readToken 71 = .ok (.getfield 28, 3) := by decide +kernel
theorem dX2_readToken_74 : decode cX2_readToken 74 = .ok (.caload, 1) := by decide +kernel
theorem dX2_readToken_75 : decode cX2_readToken 75 = .ok (.invokestatic 94, 3) := by decide +kernel
theorem dX2_readToken_78 : decode cX2_readToken 78 = .ok (.ifCond .eq 10, 3) := by decide +kernel
theorem dX2_readToken_81 : decode cX2_readToken 81 = .ok (.aload_n 0, 1) := by decide +kernel
theorem dX2_readToken_82 : decode cX2_readToken 82 = .ok (.invokevirtual 98, 3) := by decide +kernel
theorem dX2_readToken_85 : decode cX2_readToken 85 = .ok (.goto 26, 3) := by decide +kernel
theorem dX2_readToken_88 : decode cX2_readToken 88 = .ok (.aload_n 0, 1) := by decide +kernel
theorem dX2_readToken_89 : decode cX2_readToken 89 = .ok (.aload_n 0, 1) := by decide +kernel
theorem dX2_readToken_90 : decode cX2_readToken 90 = .ok (.getfield 9, 3) := by decide +kernel
theorem dX2_readToken_93 : decode cX2_readToken 93 = .ok (.aload_n 0, 1) := by decide +kernel
theorem dX2_readToken_94 : decode cX2_readToken 94 = .ok (.getfield 28, 3) := by decide +kernel
theorem dX2_readToken_97 : decode cX2_readToken 97 = .ok (.caload, 1) := by decide +kernel
theorem dX2_readToken_98 : decode cX2_readToken 98 = .ok (.putfield 34, 3) := by decide +kernel
theorem dX2_readToken_101 : decode cX2_readToken 101 = .ok (.aload_n 0, 1) := by decide +kernel
theorem dX2_readToken_102 : decode cX2_readToken 102 = .ok (.dup, 1) := by decide +kernel
theorem dX2_readToken_103 : decode cX2_readToken 103 = .ok (.getfield 28, 3) := by decide +kernel
theorem dX2_readToken_106 : decode cX2_readToken 106 = .ok (.iconst 1, 1) := by decide +kernel
theorem dX2_readToken_107 : decode cX2_readToken 107 = .ok (.iadd, 1) := by decide +kernel
theorem dX2_readToken_108 : decode cX2_readToken 108 = .ok (.putfield 28, 3) := by decide +kernel
theorem dX2_readToken_111 : decode cX2_readToken 111 = .ok (.return_, 1) := by decide +kernel
theorem dX2_readNumber_0 : decode cX2_readNumber 0 = .ok (.aload_n 0, 1) := by decide +kernel
theorem dX2_readNumber_1 : decode cX2_readNumber 1 = .ok (.iconst 0, 1) := by decide +kernel
theorem dX2_readNumber_2 : decode cX2_readNumber 2 = .ok (.putfield 69, 3) := by decide +kernel
theorem dX2_readNumber_5 : decode cX2_readNumber 5 = .ok (.aload_n 0, 1) := by decide +kernel
theorem dX2_readNumber_6 : decode cX2_readNumber 6 = .ok (.getfield 28, 3) := by decide +kernel
theorem dX2_readNumber_9 : decode cX2_readNumber 9 = .ok (.aload_n 0, 1) := by decide +kernel
theorem dX2_readNumber_10 : decode cX2_readNumber 10 = .ok (.getfield 19, 3) := by decide +kernel
theorem dX2_readNumber_13 : decode cX2_readNumber 13 = .ok (.if_icmp .ge 60, 3) := by decide +kernel
theorem dX2_readNumber_16 : decode cX2_readNumber 16 = .ok (.aload_n 0, 1) := by decide +kernel
theorem dX2_readNumber_17 : decode cX2_readNumber 17 = .ok (.getfield 9, 3) := by decide +kernel
theorem dX2_readNumber_20 : decode cX2_readNumber 20 = .ok (.aload_n 0, 1) := by decide +kernel
theorem dX2_readNumber_21 : decode cX2_readNumber 21 = .ok (.getfield 28, 3) := by decide +kernel
theorem dX2_readNumber_24 : decode cX2_readNumber 24 = .ok (.caload, 1) := by decide +kernel
theorem dX2_readNumber_25 : decode cX2_readNumber 25 = .ok (.invokestatic 94, 3) := by decide +kernel
theorem dX2_readNumber_28 : decode cX2_readNumber 28 = .ok (.ifCond .eq 45, 3) := by decide +kernel
theorem dX2_readNumber_31 : decode cX2_readNumber 31 = .ok (.aload_n 0, 1) := by decide +kernel
theorem dX2_readNumber_32 : decode cX2_readNumber 32 = .ok (.bipush 100, 2) := by decide +kernel
theorem dX2_readNumber_34 : decode cX2_readNumber 34 = .ok (.aload_n 0, 1) := by decide +kernel
theorem dX2_readNumber_35 : decode cX2_readNumber 35 = .ok (.getfield 69, 3) := by decide +kernel
theorem dX2_readNumber_38 : decode cX2_readNumber 38 = .ok (.bipush 10, 2) := by decide +kernel
theorem dX2_readNumber_40 : decode cX2_readNumber 40 = .ok (.imul, 1) := by decide +kernel
theorem dX2_readNumber_41 : decode cX2_readNumber 41 = .ok (.aload_n 0, 1) := by decide +kernel
theorem dX2_readNumber_42 : decode cX2_readNumber 42 = .ok (.getfield 9, 3) := by decide +kernel
theorem dX2_readNumber_45 : decode cX2_readNumber 45 = .ok (.aload_n 0, 1) := by decide +kernel
theorem dX2_readNumber_46 : decode cX2_readNumber 46 = .ok (.getfield 28, 3) := by decide +kernel
theorem dX2_readNumber_49 : decode cX2_readNumber 49 = .ok (.caload, 1) := by decide +kernel
theorem dX2_readNumber_50 : decode cX2_readNumber 50 = .ok (.iadd, 1) := by decide +kernel
theorem dX2_readNumber_51 : decode cX2_readNumber 51 = .ok (.bipush 48, 2) := by decide +kernel
theorem dX2_readNumber_53 : decode cX2_readNumber 53 = .ok (.isub, 1) := by decide +kernel
theorem dX2_readNumber_54 : decode cX2_readNumber 54 = .ok (.invokestatic 101, 3) := by decide +kernel
theorem dX2_readNumber_57 : decode cX2_readNumber 57 = .ok (.putfield 69, 3) := by decide +kernel
theorem dX2_readNumber_60 : decode cX2_readNumber 60 = .ok (.aload_n 0, 1) := by decide +kernel
theorem dX2_readNumber_61 : decode cX2_readNumber 61 = .ok (.dup, 1) := by decide +kernel
theorem dX2_readNumber_62 : decode cX2_readNumber 62 = .ok (.getfield 28, 3) := by decide +kernel
theorem dX2_readNumber_65 : decode cX2_readNumber 65 = .ok (.iconst 1, 1) := by decide +kernel
theorem dX2_readNumber_66 : decode cX2_readNumber 66 = .ok (.iadd, 1) := by decide +kernel
theorem dX2_readNumber_67 : decode cX2_readNumber 67 = .ok (.putfield 28, 3) := by decide +kernel
theorem dX2_readNumber_70 : decode cX2_readNumber 70 = .ok (.goto (-65), 3) := by decide +kernel
theorem dX2_readNumber_73 : decode cX2_readNumber 73 = .ok (.aload_n 0, 1) := by decide +kernel
theorem dX2_readNumber_74 : decode cX2_readNumber 74 = .ok (.getfield 9, 3) := by decide +kernel
theorem dX2_readNumber_77 : decode cX2_readNumber 77 = .ok (.aload_n 0, 1) := by decide +kernel
theorem dX2_readNumber_78 : decode cX2_readNumber 78 = .ok (.getfield 44, 3) := by decide +kernel
theorem dX2_readNumber_81 : decode cX2_readNumber 81 = .ok (.caload, 1) := by decide +kernel
theorem dX2_readNumber_82 : decode cX2_readNumber 82 = .ok (.bipush 48, 2) := by decide +kernel
theorem dX2_readNumber_84 : decode cX2_readNumber 84 = .ok (.if_icmp .ne 20, 3) := by decide +kernel
theorem dX2_readNumber_87 : decode cX2_readNumber 87 = .ok (.aload_n 0, 1) := by decide +kernel
theorem dX2_readNumber_88 : decode cX2_readNumber 88 = .ok (.getfield 28, 3) := by decide +kernel
theorem dX2_readNumber_91 : decode cX2_readNumber 91 = .ok (.aload_n 0, 1) := by decide +kernel
theorem dX2_readNumber_92 : decode cX2_readNumber 92 = .ok (.getfield 44, 3) := by decide +kernel
theorem dX2_readNumber_95 : decode cX2_readNumber 95 = .ok (.isub, 1) := by decide +kernel
theorem dX2_readNumber_96 : decode cX2_readNumber 96 = .ok (.iconst 1, 1) := by decide +kernel
theorem dX2_readNumber_97 : decode cX2_readNumber 97 = .ok (.if_icmp .le 7, 3) := by decide +kernel
theorem dX2_readNumber_100 : decode cX2_readNumber 100 = .ok (.iconst 1, 1) := by decide +kernel
theorem dX2_readNumber_101 : decode cX2_readNumber 101 = .ok (.goto 4, 3) := by decide +kernel
theorem dX2_readNumber_104 : decode cX2_readNumber 104 = .ok (.iconst 0, 1) := by decide +kernel
theorem dX2_readNumber_105 : decode cX2_readNumber 105 = .ok (.istore_n 1, 1) := by decide +kernel
theorem dX2_readNumber_106 : decode cX2_readNumber 106 = .ok (.aload_n 0, 1) := by decide +kernel
theorem dX2_readNumber_107 : decode cX2_readNumber 107 = .ok (.iload_n 1, 1) := by decide +kernel
theorem dX2_readNumber_108 : decode cX2_readNumber 108 = .ok (.ifCond .ne 12, 3) := by decide +kernel
theorem dX2_readNumber_111 : decode cX2_readNumber 111 = .ok (.aload_n 0, 1) := by decide +kernel
theorem dX2_readNumber_112 : decode cX2_readNumber 112 = .ok (.getfield 69, 3) := by decide +kernel
theorem dX2_readNumber_115 : decode cX2_readNumber 115 = .ok (.bipush 99, 2) := by decide +kernel
theorem dX2_readNumber_117 : decode cX2_readNumber 117 = .ok (.if_icmp .le 8, 3) := by decide +kernel
theorem dX2_readNumber_120 : decode cX2_readNumber 120 = .ok (.bipush (-3), 2) := by decide +kernel
theorem dX2_readNumber_122 : decode cX2_readNumber 122 = .ok (.goto 4, 3) := by decide +kernel
theorem dX2_readNumber_125 : decode cX2_readNumber 125 = .ok (.iconst (-1), 1) := by decide +kernel
theorem dX2_readNumber_126 : decode cX2_readNumber 126 = .ok (.putfield 34, 3) := by decide +kernel
theorem dX2_readNumber_129 : decode cX2_readNumber 129 = .ok (.return_, 1) := by decide +kernel
theorem dX2_isFigure_0 : decode cX2_isFigure 0 = .ok (.iload_n 0, 1) := by decide +kernel
theorem dX2_isFigure_1 : decode cX2_isFigure 1 = .ok (.bipush 48, 2) := by decide +kernel
theorem dX2_isFigure_3 : decode cX2_isFigure 3 = .ok (.if_icmp .lt 13, 3) := by decide +kernel
theorem dX2_isFigure_6 : decode cX2_isFigure 6 = .ok (.iload_n 0, 1) := by decide +kernel
theorem dX2_isFigure_7 : decode cX2_isFigure 7 = .ok (.bipush 57, 2) := by decide +kernel
theorem dX2_isFigure_9 : decode cX2_isFigure 9 = .ok (.if_icmp .gt 7, 3) := by decide +kernel
theorem dX2_isFigure_12 : decode cX2_isFigure 12 = .ok (.iconst 1, 1) := by decide +kernel
theorem dX2_isFigure_13 : decode cX2_isFigure 13 = .ok (.goto 4, 3) := by decide +kernel
theorem dX2_isFigure_16 : decode cX2_isFigure 16 = .ok (.iconst 0, 1) := by decide +kernel
theorem dX2_isFigure_17 : decode cX2_isFigure 17 = .ok (.ireturn, 1) := by decide +kernel
theorem dX3_init_0 : decode cX3_init 0 = .ok (.aload_n 0, 1) := by decide +kernel
theorem dX3_init_1 : decode cX3_init 1 = .ok (.invokespecial 1, 3) := by decide +kernel
theorem dX3_init_4 : decode cX3_init 4 = .ok (.aload_n 0, 1) := by decide +kernel
theorem dX3_init_5 : decode cX3_init 5 = .ok (.new 7, 3) := by decide +kernel
theorem dX3_init_8 : decode cX3_init 8 = .ok (.dup, 1) := by decide +kernel
theorem dX3_init_9 : decode cX3_init 9 = .ok (.invokespecial 9, 3) := by decide +kernel
theorem dX3_init_12 : decode cX3_init 12 = .ok (.putfield 10, 3) := by decide +kernel
theorem dX3_init_15 : decode cX3_init 15 = .ok (.aload_n 0, 1) := by decide +kernel
theorem dX3_init_16 : decode cX3_init 16 = .ok (.new 16, 3) := by decide +kernel
theorem dX3_init_19 : decode cX3_init 19 = .ok (.dup, 1) := by decide +kernel
theorem dX3_init_20 : decode cX3_init 20 = .ok (.invokespecial 18, 3) := by decide +kernel
theorem dX3_init_23 : decode cX3_init 23 = .ok (.putfield 19, 3) := by decide +kernel
theorem dX3_init_26 : decode cX3_init 26 = .ok (.aload_n 0, 1) := by decide +kernel
theorem dX3_init_27 : decode cX3_init 27 = .ok (.new 16, 3) := by decide +kernel
theorem dX3_init_30 : decode cX3_init 30 = .ok (.dup, 1) := by decide +kernel
theorem dX3_init_31 : decode cX3_init 31 = .ok (.invokespecial 18, 3) := by decide +kernel
theorem dX3_init_34 : decode cX3_init 34 = .ok (.putfield 23, 3) := by decide +kernel
theorem dX3_init_37 : decode cX3_init 37 = .ok (.aload_n 0, 1) := by decide +kernel
theorem dX3_init_38 : decode cX3_init 38 = .ok (.new 26, 3) := by decide +kernel
theorem dX3_init_41 : decode cX3_init 41 = .ok (.dup, 1) := by decide +kernel
theorem dX3_init_42 : decode cX3_init 42 = .ok (.invokespecial 28, 3) := by decide +kernel
theorem dX3_init_45 : decode cX3_init 45 = .ok (.putfield 29, 3) := by decide +kernel
theorem dX3_init_48 : decode cX3_init 48 = .ok (.aload_n 0, 1) := by decide +kernel
theorem dX3_init_49 : decode cX3_init 49 = .ok (.new 26, 3) := by decide +kernel
theorem dX3_init_52 : decode cX3_init 52 = .ok (.dup, 1) := by decide +kernel
theorem dX3_init_53 : decode cX3_init 53 = .ok (.invokespecial 28, 3) := by decide +kernel
theorem dX3_init_56 : decode cX3_init 56 = .ok (.putfield 33, 3) := by decide +kernel
theorem dX3_init_59 : decode cX3_init 59 = .ok (.aload_n 0, 1) := by decide +kernel
theorem dX3_init_60 : decode cX3_init 60 = .ok (.new 26, 3) := by decide +kernel
theorem dX3_init_63 : decode cX3_init 63 = .ok (.dup, 1) := by decide +kernel
theorem dX3_init_64 : decode cX3_init 64 = .ok (.invokespecial 28, 3) := by decide +kernel
theorem dX3_init_67 : decode cX3_init 67 = .ok (.putfield 36, 3) := by decide +kernel
theorem dX3_init_70 : decode cX3_init 70 = .ok (.aload_n 0, 1) := by decide +kernel
theorem dX3_init_71 : decode cX3_init 71 = .ok (.bipush 6, 2) := by decide +kernel
theorem dX3_init_73 : decode cX3_init 73 = .ok (.anewarray 26, 3) := by decide +kernel
theorem dX3_init_76 : decode cX3_init 76 = .ok (.putfield 39, 3) := by decide +kernel
theorem dX3_init_79 : decode cX3_init 79 = .ok (.iconst 0, 1) := by decide +kernel
theorem dX3_init_80 : decode cX3_init 80 = .ok (.istore_n 1, 1) := by decide +kernel
theorem dX3_init_81 : decode cX3_init 81 = .ok (.iload_n 1, 1) := by decide +kernel
theorem dX3_init_82 : decode cX3_init 82 = .ok (.aload_n 0, 1) := by decide +kernel
theorem dX3_init_83 : decode cX3_init 83 = .ok (.getfield 39, 3) := by decide +kernel
theorem dX3_init_86 : decode cX3_init 86 = .ok (.arraylength, 1) := by decide +kernel
theorem dX3_init_87 : decode cX3_init 87 = .ok (.if_icmp .ge 22, 3) := by decide +kernel
theorem dX3_init_90 : decode cX3_init 90 = .ok (.aload_n 0, 1) := by decide +kernel
theorem dX3_init_91 : decode cX3_init 91 = .ok (.getfield 39, 3) := by decide +kernel
theorem dX3_init_94 : decode cX3_init 94 = .ok (.iload_n 1, 1) := by decide +kernel
theorem dX3_init_95 : decode cX3_init 95 = .ok (.new 26, 3) := by decide +kernel
theorem dX3_init_98 : decode cX3_init 98 = .ok (.dup, 1) := by decide +kernel
theorem dX3_init_99 : decode cX3_init 99 = .ok (.invokespecial 28, 3) := by decide +kernel
theorem dX3_init_102 : decode cX3_init 102 = .ok (.aastore, 1) := by decide +kernel
theorem dX3_init_103 : decode cX3_init 103 = .ok (.iinc 1 1, 3) := by decide +kernel
theorem dX3_init_106 : decode cX3_init 106 = .ok (.goto (-25), 3) := by decide +kernel
theorem dX3_init_109 : decode cX3_init 109 = .ok (.aload_n 0, 1) := by decide +kernel
theorem dX3_init_110 : decode cX3_init 110 = .ok (.iconst 2, 1) := by decide +kernel
theorem dX3_init_111 : decode cX3_init 111 = .ok (.anewarray 26, 3) := by decide +kernel
theorem dX3_init_114 : decode cX3_init 114 = .ok (.putfield 43, 3) := by decide +kernel
theorem dX3_init_117 : decode cX3_init 117 = .ok (.iconst 0, 1) := by decide +kernel
theorem dX3_init_118 : decode cX3_init 118 = .ok (.istore_n 1, 1) := by decide +kernel
theorem dX3_init_119 : decode cX3_init 119 = .ok (.iload_n 1, 1) := by decide +kernel
theorem dX3_init_120 : decode cX3_init 120 = .ok (.aload_n 0, 1) := by decide +kernel
theorem dX3_init_121 : decode cX3_init 121 = .ok (.getfield 43, 3) := by decide +kernel
theorem dX3_init_124 : decode cX3_init 124 = .ok (.arraylength, 1) := by decide +kernel
theorem dX3_init_125 : decode cX3_init 125 = .ok (.if_icmp .ge 22, 3) := by decide +kernel
theorem dX3_init_128 : decode cX3_init 128 = .ok (.aload_n 0, 1) := by decide +kernel
theorem dX3_init_129 : decode cX3_init 129 = .ok (.getfield 43, 3) := by decide +kernel
theorem dX3_init_132 : decode cX3_init 132 = .ok (.iload_n 1, 1) := by decide +kernel
theorem dX3_init_133 : decode cX3_init 133 = .ok (.new 26, 3) := by decide +kernel
theorem dX3_init_136 : decode cX3_init 136 = .ok (.dup, 1) := by decide +kernel
theorem dX3_init_137 : decode cX3_init 137 = .ok (.invokespecial 28, 3) := by decide +kernel
theorem dX3_init_140 : decode cX3_init 140 = .ok (.aastore, 1) := by decide +kernel
theorem dX3_init_141 : decode cX3_init 141 = .ok (.iinc 1 1, 3) := by decide +kernel
theorem dX3_init_144 : decode cX3_init 144 = .ok (.goto (-25), 3) := by decide +kernel
theorem dX3_init_147 : decode cX3_init 147 = .ok (.aload_n 0, 1) := by decide +kernel
theorem dX3_init_148 : decode cX3_init 148 = .ok (.iconst 2, 1) := by decide +kernel
theorem dX3_init_149 : decode cX3_init 149 = .ok (.newarray .boolean, 2) := by decide +kernel
theorem dX3_init_151 : decode cX3_init 151 = .ok (.putfield 46, 3) := by decide +kernel
theorem dX3_init_154 : decode cX3_init 154 = .ok (.return_, 1) := by decide +kernel
theorem dX3_type_0 : decode cX3_type 0 = .ok (.iload_n 1, 1) := by decide +kernel
theorem dX3_type_1 : decode cX3_type 1 = .ok (.ifCond .lt 10, 3) := by decide +kernel
theorem dX3_type_4 : decode cX3_type 4 = .ok (.iload_n 1, 1) := by decide +kernel
theorem dX3_type_5 : decode cX3_type 5 = .ok (.sipush 255, 3) := by decide +kernel
theorem dX3_type_8 : decode cX3_type 8 = .ok (.if_icmp .le 5, 3) := by decide +kernel
theorem dX3_type_11 : decode cX3_type 11 = .ok (.iconst (-1), 1) := by decide +kernel
theorem dX3_type_12 : decode cX3_type 12 = .ok (.ireturn, 1) := by decide +kernel
theorem dX3_type_13 : decode cX3_type 13 = .ok (.aload_n 0, 1) := by decide +kernel
theorem dX3_type_14 : decode cX3_type 14 = .ok (.getfield 10, 3) := by decide +kernel
theorem dX3_type_17 : decode cX3_type 17 = .ok (.iload_n 1, 1) := by decide +kernel
theorem dX3_type_18 : decode cX3_type 18 = .ok (.invokevirtual 50, 3) := by decide +kernel
theorem dX3_type_21 : decode cX3_type 21 = .ok (.ifCond .eq 13, 3) := by decide +kernel
theorem dX3_type_24 : decode cX3_type 24 = .ok (.aload_n 0, 1) := by decide +kernel
theorem dX3_type_25 : decode cX3_type 25 = .ok (.getfield 10, 3) := by decide +kernel
theorem dX3_type_28 : decode cX3_type 28 = .ok (.getfield 54, 3) := by decide +kernel
theorem dX3_type_31 : decode cX3_type 31 = .ok (.goto 5, 3) := by decide +kernel
theorem dX3_type_34 : decode cX3_type 34 = .ok (.bipush (-3), 2) := by decide +kernel
theorem dX3_type_36 : decode cX3_type 36 = .ok (.ireturn, 1) := by decide +kernel
theorem dX3_clear_0 : decode cX3_clear 0 = .ok (.aload_n 0, 1) := by decide +kernel
theorem dX3_clear_1 : decode cX3_clear 1 = .ok (.getfield 10, 3) := by decide +kernel
theorem dX3_clear_4 : decode cX3_clear 4 = .ok (.getfield 54, 3) := by decide +kernel
theorem dX3_clear_7 : decode cX3_clear 7 = .ok (.istore_n 1, 1) := by decide +kernel
theorem dX3_clear_8 : decode cX3_clear 8 = .ok (.aload_n 0, 1) := by decide +kernel
theorem dX3_clear_9 : decode cX3_clear 9 = .ok (.getfield 10, 3) := by decide +kernel
theorem dX3_clear_12 : decode cX3_clear 12 = .ok (.iconst 0, 1) := by decide +kernel
theorem dX3_clear_13 : decode cX3_clear 13 = .ok (.putfield 54, 3) := by decide +kernel
theorem dX3_clear_16 : decode cX3_clear 16 = .ok (.iload_n 1, 1) := by decide +kernel
theorem dX3_clear_17 : decode cX3_clear 17 = .ok (.ireturn, 1) := by decide +kernel
theorem dX3_tells_0 : decode cX3_tells 0 = .ok (.aload_n 0, 1) := by decide +kernel
theorem dX3_tells_1 : decode cX3_tells 1 = .ok (.getfield 10, 3) := by decide +kernel
theorem dX3_tells_4 : decode cX3_tells 4 = .ok (.aload_n 0, 1) := by decide +kernel
theorem dX3_tells_5 : decode cX3_tells 5 = .ok (.getfield 23, 3) := by decide +kernel
theorem dX3_tells_8 : decode cX3_tells 8 = .ok (.invokevirtual 58, 3) := by decide +kernel
theorem dX3_tells_11 : decode cX3_tells 11 = .ok (.istore_n 1, 1) := by decide +kernel
theorem dX3_tells_12 : decode cX3_tells 12 = .ok (.iload_n 1, 1) := by decide +kernel
theorem dX3_tells_13 : decode cX3_tells 13 = .ok (.ifCond .ge 5, 3) := by decide +kernel
theorem dX3_tells_16 : decode cX3_tells 16 = .ok (.iload_n 1, 1) := by decide +kernel
theorem dX3_tells_17 : decode cX3_tells 17 = .ok (.ireturn, 1) := by decide +kernel
theorem dX3_tells_18 : decode cX3_tells 18 = .ok (.aload_n 0, 1) := by decide +kernel
theorem dX3_tells_19 : decode cX3_tells 19 = .ok (.getfield 23, 3) := by decide +kernel
theorem dX3_tells_22 : decode cX3_tells 22 = .ok (.astore_n 2, 1) := by decide +kernel
theorem dX3_tells_23 : decode cX3_tells 23 = .ok (.aload_n 0, 1) := by decide +kernel
theorem dX3_tells_24 : decode cX3_tells 24 = .ok (.aload_n 0, 1) := by decide +kernel
theorem dX3_tells_25 : decode cX3_tells 25 = .ok (.getfield 19, 3) := by decide +kernel
theorem dX3_tells_28 : decode cX3_tells 28 = .ok (.putfield 23, 3) := by decide +kernel
theorem dX3_tells_31 : decode cX3_tells 31 = .ok (.aload_n 0, 1) := by decide +kernel
theorem dX3_tells_32 : decode cX3_tells 32 = .ok (.aload_n 2, 1) := by decide +kernel
theorem dX3_tells_33 : decode cX3_tells 33 = .ok (.putfield 19, 3) := by decide +kernel
theorem dX3_tells_36 : decode cX3_tells 36 = .ok (.aload_n 0, 1) := by decide +kernel
theorem dX3_tells_37 : decode cX3_tells 37 = .ok (.getfield 10, 3) := by decide +kernel
theorem dX3_tells_40 : decode cX3_tells 40 = .ok (.iconst 0, 1) := by decide +kernel
theorem dX3_tells_41 : decode cX3_tells 41 = .ok (.putfield 54, 3) := by decide +kernel
theorem dX3_tells_44 : decode cX3_tells 44 = .ok (.aload_n 0, 1) := by decide +kernel
theorem dX3_tells_45 : decode cX3_tells 45 = .ok (.getfield 29, 3) := by decide +kernel
theorem dX3_tells_48 : decode cX3_tells 48 = .ok (.invokevirtual 62, 3) := by decide +kernel
theorem dX3_tells_51 : decode cX3_tells 51 = .ok (.aload_n 0, 1) := by decide +kernel
theorem dX3_tells_52 : decode cX3_tells 52 = .ok (.iconst 0, 1) := by decide +kernel
theorem dX3_tells_53 : decode cX3_tells 53 = .ok (.putfield 65, 3) := by decide +kernel
theorem dX3_tells_56 : decode cX3_tells 56 = .ok (.iconst 0, 1) := by decide +kernel
theorem dX3_tells_57 : decode cX3_tells 57 = .ok (.istore_n 3, 1) := by decide +kernel
theorem dX3_tells_58 : decode cX3_tells 58 = .ok (.iload_n 3, 1) := by decide +kernel
theorem dX3_tells_59 : decode cX3_tells 59 = .ok (.aload_n 0, 1) := by decide +kernel
theorem dX3_tells_60 : decode cX3_tells 60 = .ok (.getfield 46, 3) := by decide +kernel
theorem dX3_tells_63 : decode cX3_tells 63 = .ok (.arraylength, 1) := by decide +kernel
theorem dX3_tells_64 : decode cX3_tells 64 = .ok (.if_icmp .ge 16, 3) := by decide +kernel
theorem dX3_tells_67 : decode cX3_tells 67 = .ok (.aload_n 0, 1) := by decide +kernel
theorem dX3_tells_68 : decode cX3_tells 68 = .ok (.getfield 46, 3) := by decide +kernel
theorem dX3_tells_71 : decode cX3_tells 71 = .ok (.iload_n 3, 1) := by decide +kernel
theorem dX3_tells_72 : decode cX3_tells 72 = .ok (.iconst 0, 1) := by decide +kernel
theorem dX3_tells_73 : decode cX3_tells 73 = .ok (.bastore, 1) := by decide +kernel
theorem dX3_tells_74 : decode cX3_tells 74 = .ok (.iinc 3 1, 3) := by decide +kernel
theorem dX3_tells_77 : decode cX3_tells 77 = .ok (.goto (-19), 3) := by decide +kernel
theorem dX3_tells_80 : decode cX3_tells 80 = .ok (.iload_n 1, 1) := by decide +kernel
theorem dX3_tells_81 : decode cX3_tells 81 = .ok (.ireturn, 1) := by decide +kernel
theorem dX3_needs_0 : decode cX3_needs 0 = .ok (.iload_n 1, 1) := by decide +kernel
theorem dX3_needs_1 : decode cX3_needs 1 = .ok (.iconst 2, 1) := by decide +kernel
theorem dX3_needs_2 : decode cX3_needs 2 = .ok (.if_icmp .lt 8, 3) := by decide +kernel
theorem dX3_needs_5 : decode cX3_needs 5 = .ok (.iload_n 1, 1) := by decide +kernel
theorem dX3_needs_6 : decode cX3_needs 6 = .ok (.iconst 4, 1) := by decide +kernel
theorem dX3_needs_7 : decode cX3_needs 7 = .ok (.if_icmp .le 5, 3) := by decide +kernel
theorem dX3_needs_10 : decode cX3_needs 10 = .ok (.iconst (-1), 1) := by decide +kernel
theorem dX3_needs_11 : decode cX3_needs 11 = .ok (.ireturn, 1) := by decide +kernel
theorem dX3_needs_12 : decode cX3_needs 12 = .ok (.aload_n 0, 1) := by decide +kernel
theorem dX3_needs_13 : decode cX3_needs 13 = .ok (.getfield 29, 3) := by decide +kernel
theorem dX3_needs_16 : decode cX3_needs 16 = .ok (.getfield 68, 3) := by decide +kernel
theorem dX3_needs_19 : decode cX3_needs 19 = .ok (.istore_n 2, 1) := by decide +kernel
theorem dX3_needs_20 : decode cX3_needs 20 = .ok (.iload_n 2, 1) := by decide +kernel
theorem dX3_needs_21 : decode cX3_needs 21 = .ok (.iload_n 1, 1) := by decide +kernel
theorem dX3_needs_22 : decode cX3_needs 22 = .ok (.if_icmp .ne 6, 3) := by decide +kernel
theorem dX3_needs_25 : decode cX3_needs 25 = .ok (.bipush (-2), 2) := by decide +kernel
theorem dX3_needs_27 : decode cX3_needs 27 = .ok (.ireturn, 1) := by decide +kernel
theorem dX3_needs_28 : decode cX3_needs 28 = .ok (.aload_n 0, 1) := by decide +kernel
theorem dX3_needs_29 : decode cX3_needs 29 = .ok (.invokevirtual 71, 3) := by decide +kernel
theorem dX3_needs_32 : decode cX3_needs 32 = .ok (.aload_n 0, 1) := by decide +kernel
theorem dX3_needs_33 : decode cX3_needs 33 = .ok (.getfield 29, 3) := by decide +kernel
theorem dX3_needs_36 : decode cX3_needs 36 = .ok (.iload_n 1, 1) := by decide +kernel
theorem dX3_needs_37 : decode cX3_needs 37 = .ok (.putfield 68, 3) := by decide +kernel
theorem dX3_needs_40 : decode cX3_needs 40 = .ok (.iload_n 2, 1) := by decide +kernel
theorem dX3_needs_41 : decode cX3_needs 41 = .ok (.ireturn, 1) := by decide +kernel
theorem dX3_wishes_0 : decode cX3_wishes 0 = .ok (.aload_n 0, 1) := by decide +kernel
theorem dX3_wishes_1 : decode cX3_wishes 1 = .ok (.getfield 19, 3) := by decide +kernel
theorem dX3_wishes_4 : decode cX3_wishes 4 = .ok (.iload_n 1, 1) := by decide +kernel
theorem dX3_wishes_5 : decode cX3_wishes 5 = .ok (.iconst 0, 1) := by decide +kernel
theorem dX3_wishes_6 : decode cX3_wishes 6 = .ok (.invokevirtual 74, 3) := by decide +kernel
theorem dX3_wishes_9 : decode cX3_wishes 9 = .ok (.ifCond .eq 12, 3) := by decide +kernel
theorem dX3_wishes_12 : decode cX3_wishes 12 = .ok (.iload_n 2, 1) := by decide +kernel
theorem dX3_wishes_13 : decode cX3_wishes 13 = .ok (.ifCond .lt 8, 3) := by decide +kernel
theorem dX3_wishes_16 : decode cX3_wishes 16 = .ok (.iload_n 2, 1) := by decide +kernel
theorem dX3_wishes_17 : decode cX3_wishes 17 = .ok (.iconst 1, 1) := by decide +kernel
theorem dX3_wishes_18 : decode cX3_wishes 18 = .ok (.if_icmp .le 5, 3) := by decide +kernel
theorem dX3_wishes_21 : decode cX3_wishes 21 = .ok (.iconst (-1), 1) := by decide +kernel
theorem dX3_wishes_22 : decode cX3_wishes 22 = .ok (.ireturn, 1) := by decide +kernel
theorem dX3_wishes_23 : decode cX3_wishes 23 = .ok (.aload_n 0, 1) := by decide +kernel
theorem dX3_wishes_24 : decode cX3_wishes 24 = .ok (.getfield 29, 3) := by decide +kernel
theorem dX3_wishes_27 : decode cX3_wishes 27 = .ok (.getfield 78, 3) := by decide +kernel
theorem dX3_wishes_30 : decode cX3_wishes 30 = .ok (.iload_n 1, 1) := by decide +kernel
theorem dX3_wishes_31 : decode cX3_wishes 31 = .ok (.iaload, 1) := by decide +kernel
theorem dX3_wishes_32 : decode cX3_wishes 32 = .ok (.istore_n 3, 1) := by decide +kernel
theorem dX3_wishes_33 : decode cX3_wishes 33 = .ok (.iload_n 3, 1) := by decide +kernel
theorem dX3_wishes_34 : decode cX3_wishes 34 = .ok (.iload_n 2, 1) := by decide +kernel
theorem dX3_wishes_35 : decode cX3_wishes 35 = .ok (.if_icmp .ne 6, 3) := by decide +kernel
theorem dX3_wishes_38 : decode cX3_wishes 38 = .ok (.bipush (-2), 2) := by decide +kernel
theorem dX3_wishes_40 : decode cX3_wishes 40 = .ok (.ireturn, 1) := by decide +kernel
theorem dX3_wishes_41 : decode cX3_wishes 41 = .ok (.aload_n 0, 1) := by decide +kernel
theorem dX3_wishes_42 : decode cX3_wishes 42 = .ok (.invokevirtual 71, 3) := by decide +kernel
theorem dX3_wishes_45 : decode cX3_wishes 45 = .ok (.aload_n 0, 1) := by decide +kernel
theorem dX3_wishes_46 : decode cX3_wishes 46 = .ok (.getfield 29, 3) := by decide +kernel
theorem dX3_wishes_49 : decode cX3_wishes 49 = .ok (.getfield 78, 3) := by decide +kernel
theorem dX3_wishes_52 : decode cX3_wishes 52 = .ok (.iload_n 1, 1) := by decide +kernel
theorem dX3_wishes_53 : decode cX3_wishes 53 = .ok (.iload_n 2, 1) := by decide +kernel
theorem dX3_wishes_54 : decode cX3_wishes 54 = .ok (.iastore, 1) := by decide +kernel
theorem dX3_wishes_55 : decode cX3_wishes 55 = .ok (.iload_n 3, 1) := by decide +kernel
theorem dX3_wishes_56 : decode cX3_wishes 56 = .ok (.ireturn, 1) := by decide +kernel
theorem dX3_ticks_0 : decode cX3_ticks 0 = .ok (.iload_n 1, 1) := by decide +kernel
theorem dX3_ticks_1 : decode cX3_ticks 1 = .ok (.iconst 1, 1) := by decide +kernel
theorem dX3_ticks_2 : decode cX3_ticks 2 = .ok (.if_icmp .lt 9, 3) := by decide +kernel
theorem dX3_ticks_5 : decode cX3_ticks 5 = .ok (.iload_n 1, 1) := by decide +kernel
theorem dX3_ticks_6 : decode cX3_ticks 6 = .ok (.bipush 99, 2) := by decide +kernel
theorem dX3_ticks_8 : decode cX3_ticks 8 = .ok (.if_icmp .le 5, 3) := by decide +kernel
theorem dX3_ticks_11 : decode cX3_ticks 11 = .ok (.iconst (-1), 1) := by decide +kernel
theorem dX3_ticks_12 : decode cX3_ticks 12 = .ok (.ireturn, 1) := by decide +kernel
theorem dX3_ticks_13 : decode cX3_ticks 13 = .ok (.aload_n 0, 1) := by decide +kernel
theorem dX3_ticks_14 : decode cX3_ticks 14 = .ok (.getfield 29, 3) := by decide +kernel
theorem dX3_ticks_17 : decode cX3_ticks 17 = .ok (.getfield 82, 3) := by decide +kernel
theorem dX3_ticks_20 : decode cX3_ticks 20 = .ok (.iload_n 1, 1) := by decide +kernel
theorem dX3_ticks_21 : decode cX3_ticks 21 = .ok (.iadd, 1) := by decide +kernel
theorem dX3_ticks_22 : decode cX3_ticks 22 = .ok (.sipush 999, 3) := by decide +kernel
theorem dX3_ticks_25 : decode cX3_ticks 25 = .ok (.if_icmp .le 6, 3) := by decide +kernel
theorem dX3_ticks_28 : decode cX3_ticks 28 = .ok (.bipush (-2), 2) := by decide +kernel
theorem dX3_ticks_30 : decode cX3_ticks 30 = .ok (.ireturn, 1) := by decide +kernel
theorem dX3_ticks_31 : decode cX3_ticks 31 = .ok (.aload_n 0, 1) := by decide +kernel
theorem dX3_ticks_32 : decode cX3_ticks 32 = .ok (.invokevirtual 71, 3) := by decide +kernel
theorem dX3_ticks_35 : decode cX3_ticks 35 = .ok (.aload_n 0, 1) := by decide +kernel
theorem dX3_ticks_36 : decode cX3_ticks 36 = .ok (.getfield 29, 3) := by decide +kernel
theorem dX3_ticks_39 : decode cX3_ticks 39 = .ok (.getfield 85, 3) := by decide +kernel
theorem dX3_ticks_42 : decode cX3_ticks 42 = .ok (.istore_n 2, 1) := by decide +kernel
theorem dX3_ticks_43 : decode cX3_ticks 43 = .ok (.iconst 0, 1) := by decide +kernel
theorem dX3_ticks_44 : decode cX3_ticks 44 = .ok (.istore_n 3, 1) := by decide +kernel
theorem dX3_ticks_45 : decode cX3_ticks 45 = .ok (.iload_n 3, 1) := by decide +kernel
theorem dX3_ticks_46 : decode cX3_ticks 46 = .ok (.iload_n 1, 1) := by decide +kernel
theorem dX3_ticks_47 : decode cX3_ticks 47 = .ok (.if_icmp .ge 17, 3) := by decide +kernel
theorem dX3_ticks_50 : decode cX3_ticks 50 = .ok (.aload_n 0, 1) := by decide +kernel
theorem dX3_ticks_51 : decode cX3_ticks 51 = .ok (.aload_n 0, 1) := by decide +kernel
theorem dX3_ticks_52 : decode cX3_ticks 52 = .ok (.getfield 29, 3) := by decide +kernel
theorem dX3_ticks_55 : decode cX3_ticks 55 = .ok (.invokevirtual 88, 3) := by decide +kernel
theorem dX3_ticks_58 : decode cX3_ticks 58 = .ok (.iinc 3 1, 3) := by decide +kernel
theorem dX3_ticks_61 : decode cX3_ticks 61 = .ok (.goto (-16), 3) := by decide +kernel
theorem dX3_ticks_64 : decode cX3_ticks 64 = .ok (.aload_n 0, 1) := by decide +kernel
theorem dX3_ticks_65 : decode cX3_ticks 65 = .ok (.getfield 29, 3) := by decide +kernel
theorem dX3_ticks_68 : decode cX3_ticks 68 = .ok (.getfield 85, 3) := by decide +kernel
theorem dX3_ticks_71 : decode cX3_ticks 71 = .ok (.iload_n 2, 1) := by decide +kernel
theorem dX3_ticks_72 : decode cX3_ticks 72 = .ok (.isub, 1) := by decide +kernel
theorem dX3_ticks_73 : decode cX3_ticks 73 = .ok (.ireturn, 1) := by decide +kernel
theorem dX3_undo_0 : decode cX3_undo 0 = .ok (.aload_n 0, 1) := by decide +kernel
theorem dX3_undo_1 : decode cX3_undo 1 = .ok (.getfield 65, 3) := by decide +kernel
theorem dX3_undo_4 : decode cX3_undo 4 = .ok (.ifCond .gt 6, 3) := by decide +kernel
theorem dX3_undo_7 : decode cX3_undo 7 = .ok (.bipush (-2), 2) := by decide +kernel
theorem dX3_undo_9 : decode cX3_undo 9 = .ok (.ireturn, 1) := by decide +kernel
theorem dX3_undo_10 : decode cX3_undo 10 = .ok (.aload_n 0, 1) := by decide +kernel
theorem dX3_undo_11 : decode cX3_undo 11 = .ok (.getfield 39, 3) := by decide +kernel
theorem dX3_undo_14 : decode cX3_undo 14 = .ok (.iconst 0, 1) := by decide +kernel
theorem dX3_undo_15 : decode cX3_undo 15 = .ok (.aaload, 1) := by decide +kernel
theorem dX3_undo_16 : decode cX3_undo 16 = .ok (.astore_n 1, 1) := by decide +kernel
theorem dX3_undo_17 : decode cX3_undo 17 = .ok (.aload_n 0, 1) := by decide +kernel
theorem dX3_undo_18 : decode cX3_undo 18 = .ok (.getfield 29, 3) := by decide +kernel
theorem dX3_undo_21 : decode cX3_undo 21 = .ok (.aload_n 1, 1) := by decide +kernel
theorem dX3_undo_22 : decode cX3_undo 22 = .ok (.invokevirtual 92, 3) := by decide +kernel
theorem dX3_undo_25 : decode cX3_undo 25 = .ok (.iconst 1, 1) := by decide +kernel
theorem dX3_undo_26 : decode cX3_undo 26 = .ok (.istore_n 2, 1) := by decide +kernel
theorem dX3_undo_27 : decode cX3_undo 27 = .ok (.iload_n 2, 1) := by decide +kernel
theorem dX3_undo_28 : decode cX3_undo 28 = .ok (.aload_n 0, 1) := by decide +kernel
theorem dX3_undo_29 : decode cX3_undo 29 = .ok (.getfield 39, 3) := by decide +kernel
theorem dX3_undo_32 : decode cX3_undo 32 = .ok (.arraylength, 1) := by decide +kernel
theorem dX3_undo_33 : decode cX3_undo 33 = .ok (.if_icmp .ge 23, 3) := by decide +kernel
theorem dX3_undo_36 : decode cX3_undo 36 = .ok (.aload_n 0, 1) := by decide +kernel
theorem dX3_undo_37 : decode cX3_undo 37 = .ok (.getfield 39, 3) := by decide +kernel
theorem dX3_undo_40 : decode cX3_undo 40 = .ok (.iload_n 2, 1) := by decide +kernel
theorem dX3_undo_41 : decode cX3_undo 41 = .ok (.iconst 1, 1) := by decide +kernel
theorem dX3_undo_42 : decode cX3_undo 42 = .ok (.isub, 1) := by decide +kernel
theorem dX3_undo_43 : decode cX3_undo 43 = .ok (.aload_n 0, 1) := by decide +kernel
theorem dX3_undo_44 : decode cX3_undo 44 = .ok (.getfield 39, 3) := by decide +kernel
theorem dX3_undo_47 : decode cX3_undo 47 = .ok (.iload_n 2, 1) := by decide +kernel
theorem dX3_undo_48 : decode cX3_undo 48 = .ok (.aaload, 1) := by decide +kernel
theorem dX3_undo_49 : decode cX3_undo 49 = .ok (.aastore, 1) := by decide +kernel
theorem dX3_undo_50 : decode cX3_undo 50 = .ok (.iinc 2 1, 3) := by decide +kernel
theorem dX3_undo_53 : decode cX3_undo 53 = .ok (.goto (-26), 3) := by decide +kernel
theorem dX3_undo_56 : decode cX3_undo 56 = .ok (.aload_n 0, 1) := by decide +kernel
theorem dX3_undo_57 : decode cX3_undo 57 = .ok (.getfield 39, 3) := by decide +kernel
theorem dX3_undo_60 : decode cX3_undo 60 = .ok (.aload_n 0, 1) := by decide +kernel
theorem dX3_undo_61 : decode cX3_undo 61 = .ok (.getfield 39, 3) := by decide +kernel
theorem dX3_undo_64 : decode cX3_undo 64 = .ok (.arraylength, 1) := by decide +kernel
theorem dX3_undo_65 : decode cX3_undo 65 = .ok (.iconst 1, 1) := by decide +kernel
theorem dX3_undo_66 : decode cX3_undo 66 = .ok (.isub, 1) := by decide +kernel
theorem dX3_undo_67 : decode cX3_undo 67 = .ok (.aload_n 1, 1) := by decide +kernel
theorem dX3_undo_68 : decode cX3_undo 68 = .ok (.aastore, 1) := by decide +kernel
theorem dX3_undo_69 : decode cX3_undo 69 = .ok (.aload_n 0, 1) := by decide +kernel
theorem dX3_undo_70 : decode cX3_undo 70 = .ok (.dup, 1) := by decide +kernel
theorem dX3_undo_71 : decode cX3_undo 71 = .ok (.getfield 65, 3) := by decide +kernel
theorem dX3_undo_74 : decode cX3_undo 74 = .ok (.iconst 1, 1) := by decide +kernel
theorem dX3_undo_75 : decode cX3_undo 75 = .ok (.isub, 1) := by decide +kernel
theorem dX3_undo_76 : decode cX3_undo 76 = .ok (.putfield 65, 3) := by decide +kernel
theorem dX3_undo_79 : decode cX3_undo 79 = .ok (.aload_n 0, 1) := by decide +kernel
theorem dX3_undo_80 : decode cX3_undo 80 = .ok (.getfield 65, 3) := by decide +kernel
theorem dX3_undo_83 : decode cX3_undo 83 = .ok (.ireturn, 1) := by decide +kernel
theorem dX3_node_0 : decode cX3_node 0 = .ok (.aload_n 0, 1) := by decide +kernel
theorem dX3_node_1 : decode cX3_node 1 = .ok (.getfield 19, 3) := by decide +kernel
theorem dX3_node_4 : decode cX3_node 4 = .ok (.iload_n 1, 1) := by decide +kernel
theorem dX3_node_5 : decode cX3_node 5 = .ok (.invokevirtual 95, 3) := by decide +kernel
theorem dX3_node_8 : decode cX3_node 8 = .ok (.ifCond .ne 5, 3) := by decide +kernel
theorem dX3_node_11 : decode cX3_node 11 = .ok (.iconst (-1), 1) := by decide +kernel
theorem dX3_node_12 : decode cX3_node 12 = .ok (.ireturn, 1) := by decide +kernel
theorem dX3_node_13 : decode cX3_node 13 = .ok (.iload_n 2, 1) := by decide +kernel
theorem dX3_node_14 : decode cX3_node 14 = .ok (.tableswitch 143 0 7 #[46, 58, 70, 80, 90, 100, 119, 131], 46) := by decide +kernel
theorem dX3_node_60 : decode cX3_node 60 = .ok (.aload_n 0, 1) := by decide +kernel
theorem dX3_node_61 : decode cX3_node 61 = .ok (.getfield 19, 3) := by decide +kernel
theorem dX3_node_64 : decode cX3_node 64 = .ok (.getfield 98, 3) := by decide +kernel
theorem dX3_node_67 : decode cX3_node 67 = .ok (.iload_n 1, 1) := by decide +kernel
theorem dX3_node_68 : decode cX3_node 68 = .ok (.invokestatic 101, 3) := by decide +kernel
theorem dX3_node_71 : decode cX3_node 71 = .ok (.ireturn, 1) := by decide +kernel
theorem dX3_node_72 : decode cX3_node 72 = .ok (.aload_n 0, 1) := by decide +kernel
theorem dX3_node_73 : decode cX3_node 73 = .ok (.getfield 19, 3) := by decide +kernel
theorem dX3_node_76 : decode cX3_node 76 = .ok (.getfield 105, 3) := by decide +kernel
theorem dX3_node_79 : decode cX3_node 79 = .ok (.iload_n 1, 1) := by decide +kernel
theorem dX3_node_80 : decode cX3_node 80 = .ok (.invokestatic 101, 3) := by decide +kernel
theorem dX3_node_83 : decode cX3_node 83 = .ok (.ireturn, 1) := by decide +kernel
theorem dX3_node_84 : decode cX3_node 84 = .ok (.aload_n 0, 1) := by decide +kernel
theorem dX3_node_85 : decode cX3_node 85 = .ok (.getfield 19, 3) := by decide +kernel
theorem dX3_node_88 : decode cX3_node 88 = .ok (.iload_n 1, 1) := by decide +kernel
theorem dX3_node_89 : decode cX3_node 89 = .ok (.iconst 0, 1) := by decide +kernel
theorem dX3_node_90 : decode cX3_node 90 = .ok (.invokevirtual 108, 3) := by decide +kernel
theorem dX3_node_93 : decode cX3_node 93 = .ok (.ireturn, 1) := by decide +kernel
theorem dX3_node_94 : decode cX3_node 94 = .ok (.aload_n 0, 1) := by decide +kernel
theorem dX3_node_95 : decode cX3_node 95 = .ok (.getfield 19, 3) := by decide +kernel
theorem dX3_node_98 : decode cX3_node 98 = .ok (.iload_n 1, 1) := by decide +kernel
theorem dX3_node_99 : decode cX3_node 99 = .ok (.iconst 1, 1) := by decide +kernel
theorem dX3_node_100 : decode cX3_node 100 = .ok (.invokevirtual 108, 3) := by decide +kernel
theorem dX3_node_103 : decode cX3_node 103 = .ok (.ireturn, 1) := by decide +kernel
theorem dX3_node_104 : decode cX3_node 104 = .ok (.aload_n 0, 1) := by decide +kernel
theorem dX3_node_105 : decode cX3_node 105 = .ok (.getfield 19, 3) := by decide +kernel
theorem dX3_node_108 : decode cX3_node 108 = .ok (.iload_n 1, 1) := by decide +kernel
theorem dX3_node_109 : decode cX3_node 109 = .ok (.iconst 2, 1) := by decide +kernel
theorem dX3_node_110 : decode cX3_node 110 = .ok (.invokevirtual 108, 3) := by decide +kernel
theorem dX3_node_113 : decode cX3_node 113 = .ok (.ireturn, 1) := by decide +kernel
theorem dX3_node_114 : decode cX3_node 114 = .ok (.aload_n 0, 1) := by decide +kernel
theorem dX3_node_115 : decode cX3_node 115 = .ok (.getfield 19, 3) := by decide +kernel
theorem dX3_node_118 : decode cX3_node 118 = .ok (.aload_n 0, 1) := by decide +kernel
theorem dX3_node_119 : decode cX3_node 119 = .ok (.getfield 19, 3) := by decide +kernel
theorem dX3_node_122 : decode cX3_node 122 = .ok (.getfield 112, 3) := by decide +kernel
theorem dX3_node_125 : decode cX3_node 125 = .ok (.iload_n 1, 1) := by decide +kernel
theorem dX3_node_126 : decode cX3_node 126 = .ok (.invokestatic 101, 3) := by decide +kernel
theorem dX3_node_129 : decode cX3_node 129 = .ok (.invokevirtual 115, 3) := by decide +kernel
theorem dX3_node_132 : decode cX3_node 132 = .ok (.ireturn, 1) := by decide +kernel
theorem dX3_node_133 : decode cX3_node 133 = .ok (.aload_n 0, 1) := by decide +kernel
theorem dX3_node_134 : decode cX3_node 134 = .ok (.getfield 19, 3) := by decide +kernel
theorem dX3_node_137 : decode cX3_node 137 = .ok (.getfield 112, 3) := by decide +kernel
theorem dX3_node_140 : decode cX3_node 140 = .ok (.iload_n 1, 1) := by decide +kernel
theorem dX3_node_141 : decode cX3_node 141 = .ok (.invokestatic 101, 3) := by decide +kernel
theorem dX3_node_144 : decode cX3_node 144 = .ok (.ireturn, 1) := by decide +kernel
theorem dX3_node_145 : decode cX3_node 145 = .ok (.aload_n 0, 1) := by decide +kernel
theorem dX3_node_146 : decode cX3_node 146 = .ok (.getfield 29, 3) := by decide +kernel
theorem dX3_node_149 : decode cX3_node 149 = .ok (.getfield 119, 3) := by decide +kernel
theorem dX3_node_152 : decode cX3_node 152 = .ok (.iload_n 1, 1) := by decide +kernel
theorem dX3_node_153 : decode cX3_node 153 = .ok (.invokestatic 101, 3) := by decide +kernel
theorem dX3_node_156 : decode cX3_node 156 = .ok (.ireturn, 1) := by decide +kernel
theorem dX3_node_157 : decode cX3_node 157 = .ok (.iconst (-1), 1) := by decide +kernel
theorem dX3_node_158 : decode cX3_node 158 = .ok (.ireturn, 1) := by decide +kernel
theorem dX3_register_0 : decode cX3_register 0 = .ok (.aload_n 0, 1) := by decide +kernel
theorem dX3_register_1 : decode cX3_register 1 = .ok (.getfield 19, 3) := by decide +kernel
theorem dX3_register_4 : decode cX3_register 4 = .ok (.iload_n 1, 1) := by decide +kernel
theorem dX3_register_5 : decode cX3_register 5 = .ok (.iconst 1, 1) := by decide +kernel
theorem dX3_register_6 : decode cX3_register 6 = .ok (.invokevirtual 74, 3) := by decide +kernel
theorem dX3_register_9 : decode cX3_register 9 = .ok (.ifCond .ne 5, 3) := by decide +kernel
theorem dX3_register_12 : decode cX3_register 12 = .ok (.iconst (-1), 1) := by decide +kernel
theorem dX3_register_13 : decode cX3_register 13 = .ok (.ireturn, 1) := by decide +kernel
theorem dX3_register_14 : decode cX3_register 14 = .ok (.iload_n 2, 1) := by decide +kernel
theorem dX3_register_15 : decode cX3_register 15 = .ok (.tableswitch 65 0 2 #[25, 37, 49], 25) := by decide +kernel
theorem dX3_register_40 : decode cX3_register 40 = .ok (.aload_n 0, 1) := by decide +kernel
theorem dX3_register_41 : decode cX3_register 41 = .ok (.getfield 19, 3) := by decide +kernel
theorem dX3_register_44 : decode cX3_register 44 = .ok (.getfield 122, 3) := by decide +kernel
theorem dX3_register_47 : decode cX3_register 47 = .ok (.iload_n 1, 1) := by decide +kernel
theorem dX3_register_48 : decode cX3_register 48 = .ok (.invokestatic 101, 3) := by decide +kernel
theorem dX3_register_51 : decode cX3_register 51 = .ok (.ireturn, 1) := by decide +kernel
theorem dX3_register_52 : decode cX3_register 52 = .ok (.aload_n 0, 1) := by decide +kernel
theorem dX3_register_53 : decode cX3_register 53 = .ok (.getfield 19, 3) := by decide +kernel
theorem dX3_register_56 : decode cX3_register 56 = .ok (.getfield 125, 3) := by decide +kernel
theorem dX3_register_59 : decode cX3_register 59 = .ok (.iload_n 1, 1) := by decide +kernel
theorem dX3_register_60 : decode cX3_register 60 = .ok (.invokestatic 101, 3) := by decide +kernel
theorem dX3_register_63 : decode cX3_register 63 = .ok (.ireturn, 1) := by decide +kernel
theorem dX3_register_64 : decode cX3_register 64 = .ok (.aload_n 0, 1) := by decide +kernel
theorem dX3_register_65 : decode cX3_register 65 = .ok (.getfield 19, 3) := by decide +kernel
theorem dX3_register_68 : decode cX3_register 68 = .ok (.iload_n 1, 1) := by decide +kernel
theorem dX3_register_69 : decode cX3_register 69 = .ok (.aload_n 0, 1) := by decide +kernel
theorem dX3_register_70 : decode cX3_register 70 = .ok (.getfield 29, 3) := by decide +kernel
theorem dX3_register_73 : decode cX3_register 73 = .ok (.getfield 68, 3) := by decide +kernel
theorem dX3_register_76 : decode cX3_register 76 = .ok (.invokevirtual 128, 3) := by decide +kernel
theorem dX3_register_79 : decode cX3_register 79 = .ok (.ireturn, 1) := by decide +kernel
theorem dX3_register_80 : decode cX3_register 80 = .ok (.iconst (-1), 1) := by decide +kernel
theorem dX3_register_81 : decode cX3_register 81 = .ok (.ireturn, 1) := by decide +kernel
theorem dX3_crossing_0 : decode cX3_crossing 0 = .ok (.iload_n 1, 1) := by decide +kernel
theorem dX3_crossing_1 : decode cX3_crossing 1 = .ok (.iconst (-1), 1) := by decide +kernel
theorem dX3_crossing_2 : decode cX3_crossing 2 = .ok (.if_icmp .ge 5, 3) := by decide +kernel
theorem dX3_crossing_5 : decode cX3_crossing 5 = .ok (.iconst (-1), 1) := by decide +kernel
theorem dX3_crossing_6 : decode cX3_crossing 6 = .ok (.ireturn, 1) := by decide +kernel
theorem dX3_crossing_7 : decode cX3_crossing 7 = .ok (.iconst 0, 1) := by decide +kernel
theorem dX3_crossing_8 : decode cX3_crossing 8 = .ok (.istore_n 2, 1) := by decide +kernel
theorem dX3_crossing_9 : decode cX3_crossing 9 = .ok (.iconst 0, 1) := by decide +kernel
theorem dX3_crossing_10 : decode cX3_crossing 10 = .ok (.istore_n 3, 1) := by decide +kernel
theorem dX3_crossing_11 : decode cX3_crossing 11 = .ok (.iload_n 3, 1) := by decide +kernel
theorem dX3_crossing_12 : decode cX3_crossing 12 = .ok (.aload_n 0, 1) := by decide +kernel
theorem dX3_crossing_13 : decode cX3_crossing 13 = .ok (.getfield 19, 3) := by decide +kernel
theorem dX3_crossing_16 : decode cX3_crossing 16 = .ok (.getfield 131, 3) := by decide +kernel
theorem dX3_crossing_19 : decode cX3_crossing 19 = .ok (.if_icmp .ge 30, 3) := by decide +kernel
theorem dX3_crossing_22 : decode cX3_crossing 22 = .ok (.aload_n 0, 1) := by decide +kernel
theorem dX3_crossing_23 : decode cX3_crossing 23 = .ok (.getfield 19, 3) := by decide +kernel
theorem dX3_crossing_26 : decode cX3_crossing 26 = .ok (.iload_n 3, 1) := by decide +kernel
theorem dX3_crossing_27 : decode cX3_crossing 27 = .ok (.invokevirtual 134, 3) := by decide +kernel
theorem dX3_crossing_30 : decode cX3_crossing 30 = .ok (.ifCond .eq 13, 3) := by decide +kernel
theorem dX3_crossing_33 : decode cX3_crossing 33 = .ok (.iload_n 2, 1) := by decide +kernel
theorem dX3_crossing_34 : decode cX3_crossing 34 = .ok (.iload_n 1, 1) := by decide +kernel
theorem dX3_crossing_35 : decode cX3_crossing 35 = .ok (.if_icmp .ne 5, 3) := by decide +kernel
theorem dX3_crossing_38 : decode cX3_crossing 38 = .ok (.iload_n 3, 1) := by decide +kernel
theorem dX3_crossing_39 : decode cX3_crossing 39 = .ok (.ireturn, 1) := by decide +kernel
theorem dX3_crossing_40 : decode cX3_crossing 40 = .ok (.iinc 2 1, 3) := by decide +kernel
theorem dX3_crossing_43 : decode cX3_crossing 43 = .ok (.iinc 3 1, 3) := by decide +kernel
theorem dX3_crossing_46 : decode cX3_crossing 46 = .ok (.goto (-35), 3) := by decide +kernel
theorem dX3_crossing_49 : decode cX3_crossing 49 = .ok (.iload_n 1, 1) := by decide +kernel
theorem dX3_crossing_50 : decode cX3_crossing 50 = .ok (.iconst (-1), 1) := by decide +kernel
theorem dX3_crossing_51 : decode cX3_crossing 51 = .ok (.if_icmp .ne 7, 3) := by decide +kernel
theorem dX3_crossing_54 : decode cX3_crossing 54 = .ok (.iload_n 2, 1) := by decide +kernel
theorem dX3_crossing_55 : decode cX3_crossing 55 = .ok (.goto 5, 3) := by decide +kernel
theorem dX3_crossing_58 : decode cX3_crossing 58 = .ok (.bipush (-9), 2) := by decide +kernel
theorem dX3_crossing_60 : decode cX3_crossing 60 = .ok (.ireturn, 1) := by decide +kernel
theorem dX3_kinds_0 : decode cX3_kinds 0 = .ok (.iload_n 1, 1) := by decide +kernel
theorem dX3_kinds_1 : decode cX3_kinds 1 = .ok (.ifCond .lt 8, 3) := by decide +kernel
theorem dX3_kinds_4 : decode cX3_kinds 4 = .ok (.iload_n 1, 1) := by decide +kernel
theorem dX3_kinds_5 : decode cX3_kinds 5 = .ok (.iconst 3, 1) := by decide +kernel
theorem dX3_kinds_6 : decode cX3_kinds 6 = .ok (.if_icmp .le 5, 3) := by decide +kernel
theorem dX3_kinds_9 : decode cX3_kinds 9 = .ok (.iconst (-1), 1) := by decide +kernel
theorem dX3_kinds_10 : decode cX3_kinds 10 = .ok (.ireturn, 1) := by decide +kernel
theorem dX3_kinds_11 : decode cX3_kinds 11 = .ok (.iconst 0, 1) := by decide +kernel
theorem dX3_kinds_12 : decode cX3_kinds 12 = .ok (.istore_n 2, 1) := by decide +kernel
theorem dX3_kinds_13 : decode cX3_kinds 13 = .ok (.iconst 0, 1) := by decide +kernel
theorem dX3_kinds_14 : decode cX3_kinds 14 = .ok (.istore_n 3, 1) := by decide +kernel
theorem dX3_kinds_15 : decode cX3_kinds 15 = .ok (.iload_n 3, 1) := by decide +kernel
theorem dX3_kinds_16 : decode cX3_kinds 16 = .ok (.aload_n 0, 1) := by decide +kernel
theorem dX3_kinds_17 : decode cX3_kinds 17 = .ok (.getfield 19, 3) := by decide +kernel
theorem dX3_kinds_20 : decode cX3_kinds 20 = .ok (.getfield 131, 3) := by decide +kernel
theorem dX3_kinds_23 : decode cX3_kinds 23 = .ok (.if_icmp .ge 31, 3) := by decide +kernel
theorem dX3_kinds_26 : decode cX3_kinds 26 = .ok (.aload_n 0, 1) := by decide +kernel
theorem dX3_kinds_27 : decode cX3_kinds 27 = .ok (.getfield 19, 3) := by decide +kernel
theorem dX3_kinds_30 : decode cX3_kinds 30 = .ok (.iload_n 3, 1) := by decide +kernel
theorem dX3_kinds_31 : decode cX3_kinds 31 = .ok (.aload_n 0, 1) := by decide +kernel
theorem dX3_kinds_32 : decode cX3_kinds 32 = .ok (.getfield 29, 3) := by decide +kernel
theorem dX3_kinds_35 : decode cX3_kinds 35 = .ok (.getfield 68, 3) := by decide +kernel
theorem dX3_kinds_38 : decode cX3_kinds 38 = .ok (.invokevirtual 128, 3) := by decide +kernel
theorem dX3_kinds_41 : decode cX3_kinds 41 = .ok (.iload_n 1, 1) := by decide +kernel
theorem dX3_kinds_42 : decode cX3_kinds 42 = .ok (.if_icmp .ne 6, 3) := by decide +kernel
theorem dX3_kinds_45 : decode cX3_kinds 45 = .ok (.iinc 2 1, 3) := by decide +kernel
theorem dX3_kinds_48 : decode cX3_kinds 48 = .ok (.iinc 3 1, 3) := by decide +kernel
theorem dX3_kinds_51 : decode cX3_kinds 51 = .ok (.goto (-36), 3) := by decide +kernel
theorem dX3_kinds_54 : decode cX3_kinds 54 = .ok (.iload_n 2, 1) := by decide +kernel
theorem dX3_kinds_55 : decode cX3_kinds 55 = .ok (.ireturn, 1) := by decide +kernel
theorem dX3_join_0 : decode cX3_join 0 = .ok (.iload_n 1, 1) := by decide +kernel
theorem dX3_join_1 : decode cX3_join 1 = .ok (.iconst (-1), 1) := by decide +kernel
theorem dX3_join_2 : decode cX3_join 2 = .ok (.if_icmp .lt 21, 3) := by decide +kernel
theorem dX3_join_5 : decode cX3_join 5 = .ok (.iload_n 2, 1) := by decide +kernel
theorem dX3_join_6 : decode cX3_join 6 = .ok (.ifCond .lt 17, 3) := by decide +kernel
theorem dX3_join_9 : decode cX3_join 9 = .ok (.iload_n 2, 1) := by decide +kernel
theorem dX3_join_10 : decode cX3_join 10 = .ok (.iconst 2, 1) := by decide +kernel
theorem dX3_join_11 : decode cX3_join 11 = .ok (.if_icmp .gt 12, 3) := by decide +kernel
theorem dX3_join_14 : decode cX3_join 14 = .ok (.iload_n 1, 1) := by decide +kernel
theorem dX3_join_15 : decode cX3_join 15 = .ok (.iconst (-1), 1) := by decide +kernel
theorem dX3_join_16 : decode cX3_join 16 = .ok (.if_icmp .ne 9, 3) := by decide +kernel
theorem dX3_join_19 : decode cX3_join 19 = .ok (.iload_n 2, 1) := by decide +kernel
theorem dX3_join_20 : decode cX3_join 20 = .ok (.ifCond .eq 5, 3) := by decide +kernel
theorem dX3_join_23 : decode cX3_join 23 = .ok (.iconst (-1), 1) := by decide +kernel
theorem dX3_join_24 : decode cX3_join 24 = .ok (.ireturn, 1) := by decide +kernel
theorem dX3_join_25 : decode cX3_join 25 = .ok (.iconst 0, 1) := by decide +kernel
theorem dX3_join_26 : decode cX3_join 26 = .ok (.istore_n 3, 1) := by decide +kernel
theorem dX3_join_27 : decode cX3_join 27 = .ok (.iconst 0, 1) := by decide +kernel
theorem dX3_join_28 : decode cX3_join 28 = .ok (.istore 4, 2) := by decide +kernel
theorem dX3_join_30 : decode cX3_join 30 = .ok (.iload 4, 2) := by decide +kernel
theorem dX3_join_32 : decode cX3_join 32 = .ok (.aload_n 0, 1) := by decide +kernel
theorem dX3_join_33 : decode cX3_join 33 = .ok (.getfield 19, 3) := by decide +kernel
theorem dX3_join_36 : decode cX3_join 36 = .ok (.getfield 131, 3) := by decide +kernel
theorem dX3_join_39 : decode cX3_join 39 = .ok (.if_icmp .ge 83, 3) := by decide +kernel
theorem dX3_join_42 : decode cX3_join 42 = .ok (.iload 4, 2) := by decide +kernel
theorem dX3_join_44 : decode cX3_join 44 = .ok (.iconst 1, 1) := by decide +kernel
theorem dX3_join_45 : decode cX3_join 45 = .ok (.iadd, 1) := by decide +kernel
theorem dX3_join_46 : decode cX3_join 46 = .ok (.istore 5, 2) := by decide +kernel
theorem dX3_join_48 : decode cX3_join 48 = .ok (.iload 5, 2) := by decide +kernel
theorem dX3_join_50 : decode cX3_join 50 = .ok (.aload_n 0, 1) := by decide +kernel
theorem dX3_join_51 : decode cX3_join 51 = .ok (.getfield 19, 3) := by decide +kernel
theorem dX3_join_54 : decode cX3_join 54 = .ok (.getfield 131, 3) := by decide +kernel
theorem dX3_join_57 : decode cX3_join 57 = .ok (.if_icmp .ge 59, 3) := by decide +kernel
theorem dX3_join_60 : decode cX3_join 60 = .ok (.aload_n 0, 1) := by decide +kernel
theorem dX3_join_61 : decode cX3_join 61 = .ok (.getfield 19, 3) := by decide +kernel
theorem dX3_join_64 : decode cX3_join 64 = .ok (.iload 4, 2) := by decide +kernel
theorem dX3_join_66 : decode cX3_join 66 = .ok (.iload 5, 2) := by decide +kernel
theorem dX3_join_68 : decode cX3_join 68 = .ok (.invokevirtual 137, 3) := by decide +kernel
theorem dX3_join_71 : decode cX3_join 71 = .ok (.istore 6, 2) := by decide +kernel
theorem dX3_join_73 : decode cX3_join 73 = .ok (.iload 6, 2) := by decide +kernel
theorem dX3_join_75 : decode cX3_join 75 = .ok (.bipush (-9), 2) := by decide +kernel
theorem dX3_join_77 : decode cX3_join 77 = .ok (.if_icmp .eq 33, 3) := by decide +kernel
theorem dX3_join_80 : decode cX3_join 80 = .ok (.iload_n 3, 1) := by decide +kernel
theorem dX3_join_81 : decode cX3_join 81 = .ok (.iload_n 1, 1) := by decide +kernel
theorem dX3_join_82 : decode cX3_join 82 = .ok (.if_icmp .ne 25, 3) := by decide +kernel
theorem dX3_join_85 : decode cX3_join 85 = .ok (.iload_n 2, 1) := by decide +kernel
theorem dX3_join_86 : decode cX3_join 86 = .ok (.ifCond .ne 8, 3) := by decide +kernel
theorem dX3_join_89 : decode cX3_join 89 = .ok (.iload 4, 2) := by decide +kernel
theorem dX3_join_91 : decode cX3_join 91 = .ok (.goto 15, 3) := by decide +kernel
theorem dX3_join_94 : decode cX3_join 94 = .ok (.iload_n 2, 1) := by decide +kernel
theorem dX3_join_95 : decode cX3_join 95 = .ok (.iconst 1, 1) := by decide +kernel
theorem dX3_join_96 : decode cX3_join 96 = .ok (.if_icmp .ne 8, 3) := by decide +kernel
theorem dX3_join_99 : decode cX3_join 99 = .ok (.iload 5, 2) := by decide +kernel
theorem dX3_join_101 : decode cX3_join 101 = .ok (.goto 5, 3) := by decide +kernel
theorem dX3_join_104 : decode cX3_join 104 = .ok (.iload 6, 2) := by decide +kernel
theorem dX3_join_106 : decode cX3_join 106 = .ok (.ireturn, 1) := by decide +kernel
theorem dX3_join_107 : decode cX3_join 107 = .ok (.iinc 3 1, 3) := by decide +kernel
theorem dX3_join_110 : decode cX3_join 110 = .ok (.iinc 5 1, 3) := by decide +kernel
theorem dX3_join_113 : decode cX3_join 113 = .ok (.goto (-65), 3) := by decide +kernel
theorem dX3_join_116 : decode cX3_join 116 = .ok (.iinc 4 1, 3) := by decide +kernel
theorem dX3_join_119 : decode cX3_join 119 = .ok (.goto (-89), 3) := by decide +kernel
theorem dX3_join_122 : decode cX3_join 122 = .ok (.iload_n 1, 1) := by decide +kernel
theorem dX3_join_123 : decode cX3_join 123 = .ok (.iconst (-1), 1) := by decide +kernel
theorem dX3_join_124 : decode cX3_join 124 = .ok (.if_icmp .ne 7, 3) := by decide +kernel
theorem dX3_join_127 : decode cX3_join 127 = .ok (.iload_n 3, 1) := by decide +kernel
theorem dX3_join_128 : decode cX3_join 128 = .ok (.goto 5, 3) := by decide +kernel
theorem dX3_join_131 : decode cX3_join 131 = .ok (.bipush (-9), 2) := by decide +kernel
theorem dX3_join_133 : decode cX3_join 133 = .ok (.ireturn, 1) := by decide +kernel
theorem dX3_risk_0 : decode cX3_risk 0 = .ok (.fconst 0, 1) := by decide +kernel
theorem dX3_risk_1 : decode cX3_risk 1 = .ok (.fstore_n 1, 1) := by decide +kernel
theorem dX3_risk_2 : decode cX3_risk 2 = .ok (.iconst 0, 1) := by decide +kernel
theorem dX3_risk_3 : decode cX3_risk 3 = .ok (.istore_n 2, 1) := by decide +kernel
theorem dX3_risk_4 : decode cX3_risk 4 = .ok (.iload_n 2, 1) := by decide +kernel
theorem dX3_risk_5 : decode cX3_risk 5 = .ok (.aload_n 0, 1) := by decide +kernel
theorem dX3_risk_6 : decode cX3_risk 6 = .ok (.getfield 19, 3) := by decide +kernel
theorem dX3_risk_9 : decode cX3_risk 9 = .ok (.getfield 131, 3) := by decide +kernel
theorem dX3_risk_12 : decode cX3_risk 12 = .ok (.if_icmp .ge 58, 3) := by decide +kernel
theorem dX3_risk_15 : decode cX3_risk 15 = .ok (.aload_n 0, 1) := by decide +kernel
theorem dX3_risk_16 : decode cX3_risk 16 = .ok (.getfield 19, 3) := by decide +kernel
theorem dX3_risk_19 : decode cX3_risk 19 = .ok (.iload_n 2, 1) := by decide +kernel
theorem dX3_risk_20 : decode cX3_risk 20 = .ok (.invokevirtual 134, 3) := by decide +kernel
theorem dX3_risk_23 : decode cX3_risk 23 = .ok (.ifCond .eq 41, 3) := by decide +kernel
theorem dX3_risk_26 : decode cX3_risk 26 = .ok (.fload_n 1, 1) := by decide +kernel
theorem dX3_risk_27 : decode cX3_risk 27 = .ok (.aload_n 0, 1) := by decide +kernel
theorem dX3_risk_28 : decode cX3_risk 28 = .ok (.getfield 19, 3) := by decide +kernel
theorem dX3_risk_31 : decode cX3_risk 31 = .ok (.iload_n 2, 1) := by decide +kernel
theorem dX3_risk_32 : decode cX3_risk 32 = .ok (.aload_n 0, 1) := by decide +kernel
theorem dX3_risk_33 : decode cX3_risk 33 = .ok (.getfield 29, 3) := by decide +kernel
theorem dX3_risk_36 : decode cX3_risk 36 = .ok (.getfield 68, 3) := by decide +kernel
theorem dX3_risk_39 : decode cX3_risk 39 = .ok (.invokevirtual 140, 3) := by decide +kernel
theorem dX3_risk_42 : decode cX3_risk 42 = .ok (.aload_n 0, 1) := by decide +kernel
theorem dX3_risk_43 : decode cX3_risk 43 = .ok (.getfield 19, 3) := by decide +kernel
theorem dX3_risk_46 : decode cX3_risk 46 = .ok (.aload_n 0, 1) := by decide +kernel
theorem dX3_risk_47 : decode cX3_risk 47 = .ok (.getfield 19, 3) := by decide +kernel
theorem dX3_risk_50 : decode cX3_risk 50 = .ok (.getfield 105, 3) := by decide +kernel
theorem dX3_risk_53 : decode cX3_risk 53 = .ok (.iload_n 2, 1) := by decide +kernel
theorem dX3_risk_54 : decode cX3_risk 54 = .ok (.invokestatic 101, 3) := by decide +kernel
theorem dX3_risk_57 : decode cX3_risk 57 = .ok (.invokevirtual 144, 3) := by decide +kernel
theorem dX3_risk_60 : decode cX3_risk 60 = .ok (.i2f, 1) := by decide +kernel
theorem dX3_risk_61 : decode cX3_risk 61 = .ok (.fdiv, 1) := by decide +kernel
theorem dX3_risk_62 : decode cX3_risk 62 = .ok (.fadd, 1) := by decide +kernel
theorem dX3_risk_63 : decode cX3_risk 63 = .ok (.fstore_n 1, 1) := by decide +kernel
theorem dX3_risk_64 : decode cX3_risk 64 = .ok (.iinc 2 1, 3) := by decide +kernel
theorem dX3_risk_67 : decode cX3_risk 67 = .ok (.goto (-63), 3) := by decide +kernel
theorem dX3_risk_70 : decode cX3_risk 70 = .ok (.ldc 147, 2) := by decide +kernel
theorem dX3_risk_72 : decode cX3_risk 72 = .ok (.fload_n 1, 1) := by decide +kernel
theorem dX3_risk_73 : decode cX3_risk 73 = .ok (.fmul, 1) := by decide +kernel
theorem dX3_risk_74 : decode cX3_risk 74 = .ok (.f2i, 1) := by decide +kernel
theorem dX3_risk_75 : decode cX3_risk 75 = .ok (.ireturn, 1) := by decide +kernel
theorem dX3_period_0 : decode cX3_period 0 = .ok (.iload_n 1, 1) := by decide +kernel
theorem dX3_period_1 : decode cX3_period 1 = .ok (.ifCond .lt 8, 3) := by decide +kernel
theorem dX3_period_4 : decode cX3_period 4 = .ok (.iload_n 1, 1) := by decide +kernel
theorem dX3_period_5 : decode cX3_period 5 = .ok (.iconst 3, 1) := by decide +kernel
theorem dX3_period_6 : decode cX3_period 6 = .ok (.if_icmp .lt 7, 3) := by decide +kernel
theorem dX3_period_9 : decode cX3_period 9 = .ok (.iconst (-1), 1) := by decide +kernel
theorem dX3_period_10 : decode cX3_period 10 = .ok (.goto 11, 3) := by decide +kernel
theorem dX3_period_13 : decode cX3_period 13 = .ok (.aload_n 0, 1) := by decide +kernel
theorem dX3_period_14 : decode cX3_period 14 = .ok (.getfield 19, 3) := by decide +kernel
theorem dX3_period_17 : decode cX3_period 17 = .ok (.iload_n 1, 1) := by decide +kernel
theorem dX3_period_18 : decode cX3_period 18 = .ok (.invokevirtual 144, 3) := by decide +kernel
theorem dX3_period_21 : decode cX3_period 21 = .ok (.ireturn, 1) := by decide +kernel
theorem dX3_wish_0 : decode cX3_wish 0 = .ok (.aload_n 0, 1) := by decide +kernel
theorem dX3_wish_1 : decode cX3_wish 1 = .ok (.getfield 19, 3) := by decide +kernel
theorem dX3_wish_4 : decode cX3_wish 4 = .ok (.iload_n 1, 1) := by decide +kernel
theorem dX3_wish_5 : decode cX3_wish 5 = .ok (.iconst 0, 1) := by decide +kernel
theorem dX3_wish_6 : decode cX3_wish 6 = .ok (.invokevirtual 74, 3) := by decide +kernel
theorem dX3_wish_9 : decode cX3_wish 9 = .ok (.ifCond .eq 17, 3) := by decide +kernel
theorem dX3_wish_12 : decode cX3_wish 12 = .ok (.aload_n 0, 1) := by decide +kernel
theorem dX3_wish_13 : decode cX3_wish 13 = .ok (.getfield 29, 3) := by decide +kernel
theorem dX3_wish_16 : decode cX3_wish 16 = .ok (.getfield 78, 3) := by decide +kernel
theorem dX3_wish_19 : decode cX3_wish 19 = .ok (.iload_n 1, 1) := by decide +kernel
theorem dX3_wish_20 : decode cX3_wish 20 = .ok (.invokestatic 101, 3) := by decide +kernel
theorem dX3_wish_23 : decode cX3_wish 23 = .ok (.goto 4, 3) := by decide +kernel
theorem dX3_wish_26 : decode cX3_wish 26 = .ok (.iconst (-1), 1) := by decide +kernel
theorem dX3_wish_27 : decode cX3_wish 27 = .ok (.ireturn, 1) := by decide +kernel
theorem dX3_when_0 : decode cX3_when 0 = .ok (.aload_n 0, 1) := by decide +kernel
theorem dX3_when_1 : decode cX3_when 1 = .ok (.getfield 19, 3) := by decide +kernel
theorem dX3_when_4 : decode cX3_when 4 = .ok (.iload_n 1, 1) := by decide +kernel
theorem dX3_when_5 : decode cX3_when 5 = .ok (.invokevirtual 95, 3) := by decide +kernel
theorem dX3_when_8 : decode cX3_when 8 = .ok (.ifCond .eq 12, 3) := by decide +kernel
theorem dX3_when_11 : decode cX3_when 11 = .ok (.iload_n 2, 1) := by decide +kernel
theorem dX3_when_12 : decode cX3_when 12 = .ok (.ifCond .lt 8, 3) := by decide +kernel
theorem dX3_when_15 : decode cX3_when 15 = .ok (.iload_n 2, 1) := by decide +kernel
theorem dX3_when_16 : decode cX3_when 16 = .ok (.iconst 2, 1) := by decide +kernel
theorem dX3_when_17 : decode cX3_when 17 = .ok (.if_icmp .le 5, 3) := by decide +kernel
theorem dX3_when_20 : decode cX3_when 20 = .ok (.iconst (-1), 1) := by decide +kernel
theorem dX3_when_21 : decode cX3_when 21 = .ok (.ireturn, 1) := by decide +kernel
theorem dX3_when_22 : decode cX3_when 22 = .ok (.aload_n 0, 1) := by decide +kernel
theorem dX3_when_23 : decode cX3_when 23 = .ok (.getfield 36, 3) := by decide +kernel
theorem dX3_when_26 : decode cX3_when 26 = .ok (.aload_n 0, 1) := by decide +kernel
theorem dX3_when_27 : decode cX3_when 27 = .ok (.getfield 29, 3) := by decide +kernel
theorem dX3_when_30 : decode cX3_when 30 = .ok (.invokevirtual 92, 3) := by decide +kernel
theorem dX3_when_33 : decode cX3_when 33 = .ok (.iconst 0, 1) := by decide +kernel
theorem dX3_when_34 : decode cX3_when 34 = .ok (.istore_n 3, 1) := by decide +kernel
theorem dX3_when_35 : decode cX3_when 35 = .ok (.iload_n 3, 1) := by decide +kernel
theorem dX3_when_36 : decode cX3_when 36 = .ok (.bipush 99, 2) := by decide +kernel
theorem dX3_when_38 : decode cX3_when 38 = .ok (.if_icmp .gt 34, 3) := by decide +kernel
theorem dX3_when_41 : decode cX3_when 41 = .ok (.aload_n 0, 1) := by decide +kernel
theorem dX3_when_42 : decode cX3_when 42 = .ok (.getfield 36, 3) := by decide +kernel
theorem dX3_when_45 : decode cX3_when 45 = .ok (.getfield 119, 3) := by decide +kernel
theorem dX3_when_48 : decode cX3_when 48 = .ok (.iload_n 1, 1) := by decide +kernel
theorem dX3_when_49 : decode cX3_when 49 = .ok (.invokestatic 101, 3) := by decide +kernel
theorem dX3_when_52 : decode cX3_when 52 = .ok (.iload_n 2, 1) := by decide +kernel
theorem dX3_when_53 : decode cX3_when 53 = .ok (.if_icmp .ne 5, 3) := by decide +kernel
theorem dX3_when_56 : decode cX3_when 56 = .ok (.iload_n 3, 1) := by decide +kernel
theorem dX3_when_57 : decode cX3_when 57 = .ok (.ireturn, 1) := by decide +kernel
theorem dX3_when_58 : decode cX3_when 58 = .ok (.aload_n 0, 1) := by decide +kernel
theorem dX3_when_59 : decode cX3_when 59 = .ok (.aload_n 0, 1) := by decide +kernel
theorem dX3_when_60 : decode cX3_when 60 = .ok (.getfield 36, 3) := by decide +kernel
theorem dX3_when_63 : decode cX3_when 63 = .ok (.invokevirtual 88, 3) := by decide +kernel
theorem dX3_when_66 : decode cX3_when 66 = .ok (.iinc 3 1, 3) := by decide +kernel
theorem dX3_when_69 : decode cX3_when 69 = .ok (.goto (-34), 3) := by decide +kernel
theorem dX3_when_72 : decode cX3_when 72 = .ok (.bipush (-9), 2) := by decide +kernel
theorem dX3_when_74 : decode cX3_when 74 = .ok (.ireturn, 1) := by decide +kernel
theorem dX3_keep_0 : decode cX3_keep 0 = .ok (.iload_n 1, 1) := by decide +kernel
theorem dX3_keep_1 : decode cX3_keep 1 = .ok (.ifCond .lt 8, 3) := by decide +kernel
theorem dX3_keep_4 : decode cX3_keep 4 = .ok (.iload_n 1, 1) := by decide +kernel
theorem dX3_keep_5 : decode cX3_keep 5 = .ok (.iconst 2, 1) := by decide +kernel
theorem dX3_keep_6 : decode cX3_keep 6 = .ok (.if_icmp .lt 5, 3) := by decide +kernel
theorem dX3_keep_9 : decode cX3_keep 9 = .ok (.iconst (-1), 1) := by decide +kernel
theorem dX3_keep_10 : decode cX3_keep 10 = .ok (.ireturn, 1) := by decide +kernel
theorem dX3_keep_11 : decode cX3_keep 11 = .ok (.aload_n 0, 1) := by decide +kernel
theorem dX3_keep_12 : decode cX3_keep 12 = .ok (.getfield 43, 3) := by decide +kernel
theorem dX3_keep_15 : decode cX3_keep 15 = .ok (.iload_n 1, 1) := by decide +kernel
theorem dX3_keep_16 : decode cX3_keep 16 = .ok (.aaload, 1) := by decide +kernel
theorem dX3_keep_17 : decode cX3_keep 17 = .ok (.aload_n 0, 1) := by decide +kernel
theorem dX3_keep_18 : decode cX3_keep 18 = .ok (.getfield 29, 3) := by decide +kernel
theorem dX3_keep_21 : decode cX3_keep 21 = .ok (.invokevirtual 92, 3) := by decide +kernel
theorem dX3_keep_24 : decode cX3_keep 24 = .ok (.aload_n 0, 1) := by decide +kernel
theorem dX3_keep_25 : decode cX3_keep 25 = .ok (.getfield 46, 3) := by decide +kernel
theorem dX3_keep_28 : decode cX3_keep 28 = .ok (.iload_n 1, 1) := by decide +kernel
theorem dX3_keep_29 : decode cX3_keep 29 = .ok (.iconst 1, 1) := by decide +kernel
theorem dX3_keep_30 : decode cX3_keep 30 = .ok (.bastore, 1) := by decide +kernel
theorem dX3_keep_31 : decode cX3_keep 31 = .ok (.aload_n 0, 1) := by decide +kernel
theorem dX3_keep_32 : decode cX3_keep 32 = .ok (.getfield 29, 3) := by decide +kernel
theorem dX3_keep_35 : decode cX3_keep 35 = .ok (.getfield 82, 3) := by decide +kernel
theorem dX3_keep_38 : decode cX3_keep 38 = .ok (.ireturn, 1) := by decide +kernel
theorem dX3_back_0 : decode cX3_back 0 = .ok (.iload_n 1, 1) := by decide +kernel
theorem dX3_back_1 : decode cX3_back 1 = .ok (.ifCond .lt 8, 3) := by decide +kernel
theorem dX3_back_4 : decode cX3_back 4 = .ok (.iload_n 1, 1) := by decide +kernel
theorem dX3_back_5 : decode cX3_back 5 = .ok (.iconst 2, 1) := by decide +kernel
theorem dX3_back_6 : decode cX3_back 6 = .ok (.if_icmp .lt 5, 3) := by decide +kernel
theorem dX3_back_9 : decode cX3_back 9 = .ok (.iconst (-1), 1) := by decide +kernel
theorem dX3_back_10 : decode cX3_back 10 = .ok (.ireturn, 1) := by decide +kernel
theorem dX3_back_11 : decode cX3_back 11 = .ok (.aload_n 0, 1) := by decide +kernel
theorem dX3_back_12 : decode cX3_back 12 = .ok (.getfield 46, 3) := by decide +kernel
theorem dX3_back_15 : decode cX3_back 15 = .ok (.iload_n 1, 1) := by decide +kernel
theorem dX3_back_16 : decode cX3_back 16 = .ok (.baload, 1) := by decide +kernel
theorem dX3_back_17 : decode cX3_back 17 = .ok (.ifCond .ne 6, 3) := by decide +kernel
theorem dX3_back_20 : decode cX3_back 20 = .ok (.bipush (-2), 2) := by decide +kernel
theorem dX3_back_22 : decode cX3_back 22 = .ok (.ireturn, 1) := by decide +kernel
theorem dX3_back_23 : decode cX3_back 23 = .ok (.aload_n 0, 1) := by decide +kernel
theorem dX3_back_24 : decode cX3_back 24 = .ok (.getfield 29, 3) := by decide +kernel
theorem dX3_back_27 : decode cX3_back 27 = .ok (.aload_n 0, 1) := by decide +kernel
theorem dX3_back_28 : decode cX3_back 28 = .ok (.getfield 43, 3) := by decide +kernel
theorem dX3_back_31 : decode cX3_back 31 = .ok (.iload_n 1, 1) := by decide +kernel
theorem dX3_back_32 : decode cX3_back 32 = .ok (.aaload, 1) := by decide +kernel
theorem dX3_back_33 : decode cX3_back 33 = .ok (.invokevirtual 92, 3) := by decide +kernel
theorem dX3_back_36 : decode cX3_back 36 = .ok (.aload_n 0, 1) := by decide +kernel
theorem dX3_back_37 : decode cX3_back 37 = .ok (.iconst 0, 1) := by decide +kernel
theorem dX3_back_38 : decode cX3_back 38 = .ok (.putfield 65, 3) := by decide +kernel
theorem dX3_back_41 : decode cX3_back 41 = .ok (.aload_n 0, 1) := by decide +kernel
theorem dX3_back_42 : decode cX3_back 42 = .ok (.getfield 29, 3) := by decide +kernel
theorem dX3_back_45 : decode cX3_back 45 = .ok (.getfield 82, 3) := by decide +kernel
theorem dX3_back_48 : decode cX3_back 48 = .ok (.ireturn, 1) := by decide +kernel
theorem dX3_count_0 : decode cX3_count 0 = .ok (.iload_n 1, 1) := by decide +kernel
theorem dX3_count_1 : decode cX3_count 1 = .ok (.tableswitch 108 0 7 #[47, 55, 63, 71, 79, 87, 95, 103], 47) := by decide +kernel
theorem dX3_count_48 : decode cX3_count 48 = .ok (.aload_n 0, 1) := by decide +kernel
theorem dX3_count_49 : decode cX3_count 49 = .ok (.getfield 19, 3) := by decide +kernel
theorem dX3_count_52 : decode cX3_count 52 = .ok (.getfield 131, 3) := by decide +kernel
theorem dX3_count_55 : decode cX3_count 55 = .ok (.ireturn, 1) := by decide +kernel
theorem dX3_count_56 : decode cX3_count 56 = .ok (.aload_n 0, 1) := by decide +kernel
theorem dX3_count_57 : decode cX3_count 57 = .ok (.getfield 19, 3) := by decide +kernel
theorem dX3_count_60 : decode cX3_count 60 = .ok (.getfield 148, 3) := by decide +kernel
theorem dX3_count_63 : decode cX3_count 63 = .ok (.ireturn, 1) := by decide +kernel
theorem dX3_count_64 : decode cX3_count 64 = .ok (.aload_n 0, 1) := by decide +kernel
theorem dX3_count_65 : decode cX3_count 65 = .ok (.getfield 29, 3) := by decide +kernel
theorem dX3_count_68 : decode cX3_count 68 = .ok (.getfield 68, 3) := by decide +kernel
theorem dX3_count_71 : decode cX3_count 71 = .ok (.ireturn, 1) := by decide +kernel
theorem dX3_count_72 : decode cX3_count 72 = .ok (.aload_n 0, 1) := by decide +kernel
theorem dX3_count_73 : decode cX3_count 73 = .ok (.getfield 29, 3) := by decide +kernel
theorem dX3_count_76 : decode cX3_count 76 = .ok (.getfield 82, 3) := by decide +kernel
theorem dX3_count_79 : decode cX3_count 79 = .ok (.ireturn, 1) := by decide +kernel
theorem dX3_count_80 : decode cX3_count 80 = .ok (.aload_n 0, 1) := by decide +kernel
theorem dX3_count_81 : decode cX3_count 81 = .ok (.getfield 29, 3) := by decide +kernel
theorem dX3_count_84 : decode cX3_count 84 = .ok (.getfield 85, 3) := by decide +kernel
theorem dX3_count_87 : decode cX3_count 87 = .ok (.ireturn, 1) := by decide +kernel
theorem dX3_count_88 : decode cX3_count 88 = .ok (.aload_n 0, 1) := by decide +kernel
theorem dX3_count_89 : decode cX3_count 89 = .ok (.getfield 29, 3) := by decide +kernel
theorem dX3_count_92 : decode cX3_count 92 = .ok (.getfield 151, 3) := by decide +kernel
theorem dX3_count_95 : decode cX3_count 95 = .ok (.ireturn, 1) := by decide +kernel
theorem dX3_count_96 : decode cX3_count 96 = .ok (.aload_n 0, 1) := by decide +kernel
theorem dX3_count_97 : decode cX3_count 97 = .ok (.getfield 10, 3) := by decide +kernel
theorem dX3_count_100 : decode cX3_count 100 = .ok (.getfield 54, 3) := by decide +kernel
theorem dX3_count_103 : decode cX3_count 103 = .ok (.ireturn, 1) := by decide +kernel
theorem dX3_count_104 : decode cX3_count 104 = .ok (.aload_n 0, 1) := by decide +kernel
theorem dX3_count_105 : decode cX3_count 105 = .ok (.getfield 65, 3) := by decide +kernel
theorem dX3_count_108 : decode cX3_count 108 = .ok (.ireturn, 1) := by decide +kernel
theorem dX3_count_109 : decode cX3_count 109 = .ok (.iconst (-1), 1) := by decide +kernel
theorem dX3_count_110 : decode cX3_count 110 = .ok (.ireturn, 1) := by decide +kernel
theorem dX3_tick_0 : decode cX3_tick 0 = .ok (.aload_n 0, 1) := by decide +kernel
theorem dX3_tick_1 : decode cX3_tick 1 = .ok (.getfield 33, 3) := by decide +kernel
theorem dX3_tick_4 : decode cX3_tick 4 = .ok (.aload_n 1, 1) := by decide +kernel
theorem dX3_tick_5 : decode cX3_tick 5 = .ok (.invokevirtual 92, 3) := by decide +kernel
theorem dX3_tick_8 : decode cX3_tick 8 = .ok (.aload_n 1, 1) := by decide +kernel
theorem dX3_tick_9 : decode cX3_tick 9 = .ok (.aload_n 0, 1) := by decide +kernel
theorem dX3_tick_10 : decode cX3_tick 10 = .ok (.getfield 33, 3) := by decide +kernel
theorem dX3_tick_13 : decode cX3_tick 13 = .ok (.aload_n 0, 1) := by decide +kernel
theorem dX3_tick_14 : decode cX3_tick 14 = .ok (.getfield 19, 3) := by decide +kernel
theorem dX3_tick_17 : decode cX3_tick 17 = .ok (.invokevirtual 154, 3) := by decide +kernel
theorem dX3_tick_20 : decode cX3_tick 20 = .ok (.return_, 1) := by decide +kernel
theorem dX3_remember_0 : decode cX3_remember 0 = .ok (.aload_n 0, 1) := by decide +kernel
theorem dX3_remember_1 : decode cX3_remember 1 = .ok (.getfield 39, 3) := by decide +kernel
theorem dX3_remember_4 : decode cX3_remember 4 = .ok (.aload_n 0, 1) := by decide +kernel
theorem dX3_remember_5 : decode cX3_remember 5 = .ok (.getfield 39, 3) := by decide +kernel
theorem dX3_remember_8 : decode cX3_remember 8 = .ok (.arraylength, 1) := by decide +kernel
theorem dX3_remember_9 : decode cX3_remember 9 = .ok (.iconst 1, 1) := by decide +kernel
theorem dX3_remember_10 : decode cX3_remember 10 = .ok (.isub, 1) := by decide +kernel
theorem dX3_remember_11 : decode cX3_remember 11 = .ok (.aaload, 1) := by decide +kernel
theorem dX3_remember_12 : decode cX3_remember 12 = .ok (.astore_n 1, 1) := by decide +kernel
theorem dX3_remember_13 : decode cX3_remember 13 = .ok (.aload_n 0, 1) := by decide +kernel
theorem dX3_remember_14 : decode cX3_remember 14 = .ok (.getfield 39, 3) := by decide +kernel
theorem dX3_remember_17 : decode cX3_remember 17 = .ok (.arraylength, 1) := by decide +kernel
theorem dX3_remember_18 : decode cX3_remember 18 = .ok (.iconst 1, 1) := by decide +kernel
theorem dX3_remember_19 : decode cX3_remember 19 = .ok (.isub, 1) := by decide +kernel
theorem dX3_remember_20 : decode cX3_remember 20 = .ok (.istore_n 2, 1) := by decide +kernel
theorem dX3_remember_21 : decode cX3_remember 21 = .ok (.iload_n 2, 1) := by decide +kernel
theorem dX3_remember_22 : decode cX3_remember 22 = .ok (.ifCond .le 23, 3) := by decide +kernel
theorem dX3_remember_25 : decode cX3_remember 25 = .ok (.aload_n 0, 1) := by decide +kernel
theorem dX3_remember_26 : decode cX3_remember 26 = .ok (.getfield 39, 3) := by decide +kernel
theorem dX3_remember_29 : decode cX3_remember 29 = .ok (.iload_n 2, 1) := by decide +kernel
theorem dX3_remember_30 : decode cX3_remember 30 = .ok (.aload_n 0, 1) := by decide +kernel
theorem dX3_remember_31 : decode cX3_remember 31 = .ok (.getfield 39, 3) := by decide +kernel
theorem dX3_remember_34 : decode cX3_remember 34 = .ok (.iload_n 2, 1) := by decide +kernel
theorem dX3_remember_35 : decode cX3_remember 35 = .ok (.iconst 1, 1) := by decide +kernel
theorem dX3_remember_36 : decode cX3_remember 36 = .ok (.isub, 1) := by decide +kernel
theorem dX3_remember_37 : decode cX3_remember 37 = .ok (.aaload, 1) := by decide +kernel
theorem dX3_remember_38 : decode cX3_remember 38 = .ok (.aastore, 1) := by decide +kernel
theorem dX3_remember_39 : decode cX3_remember 39 = .ok (.iinc 2 (-1), 3) := by decide +kernel
theorem dX3_remember_42 : decode cX3_remember 42 = .ok (.goto (-21), 3) := by decide +kernel
theorem dX3_remember_45 : decode cX3_remember 45 = .ok (.aload_n 1, 1) := by decide +kernel
theorem dX3_remember_46 : decode cX3_remember 46 = .ok (.aload_n 0, 1) := by decide +kernel
theorem dX3_remember_47 : decode cX3_remember 47 = .ok (.getfield 29, 3) := by decide +kernel
theorem dX3_remember_50 : decode cX3_remember 50 = .ok (.invokevirtual 92, 3) := by decide +kernel
theorem dX3_remember_53 : decode cX3_remember 53 = .ok (.aload_n 0, 1) := by decide +kernel
theorem dX3_remember_54 : decode cX3_remember 54 = .ok (.getfield 39, 3) := by decide +kernel
theorem dX3_remember_57 : decode cX3_remember 57 = .ok (.iconst 0, 1) := by decide +kernel
theorem dX3_remember_58 : decode cX3_remember 58 = .ok (.aload_n 1, 1) := by decide +kernel
theorem dX3_remember_59 : decode cX3_remember 59 = .ok (.aastore, 1) := by decide +kernel
theorem dX3_remember_60 : decode cX3_remember 60 = .ok (.aload_n 0, 1) := by decide +kernel
theorem dX3_remember_61 : decode cX3_remember 61 = .ok (.getfield 65, 3) := by decide +kernel
theorem dX3_remember_64 : decode cX3_remember 64 = .ok (.bipush 6, 2) := by decide +kernel
theorem dX3_remember_66 : decode cX3_remember 66 = .ok (.if_icmp .ge 13, 3) := by decide +kernel
theorem dX3_remember_69 : decode cX3_remember 69 = .ok (.aload_n 0, 1) := by decide +kernel
theorem dX3_remember_70 : decode cX3_remember 70 = .ok (.dup, 1) := by decide +kernel
theorem dX3_remember_71 : decode cX3_remember 71 = .ok (.getfield 65, 3) := by decide +kernel
theorem dX3_remember_74 : decode cX3_remember 74 = .ok (.iconst 1, 1) := by decide +kernel
theorem dX3_remember_75 : decode cX3_remember 75 = .ok (.iadd, 1) := by decide +kernel
theorem dX3_remember_76 : decode cX3_remember 76 = .ok (.putfield 65, 3) := by decide +kernel
theorem dX3_remember_79 : decode cX3_remember 79 = .ok (.return_, 1) := by decide +kernel
theorem dX3_at_0 : decode cX3_at 0 = .ok (.iload_n 1, 1) := by decide +kernel
theorem dX3_at_1 : decode cX3_at 1 = .ok (.ifCond .lt 15, 3) := by decide +kernel
theorem dX3_at_4 : decode cX3_at 4 = .ok (.iload_n 1, 1) := by decide +kernel
theorem dX3_at_5 : decode cX3_at 5 = .ok (.aload_n 0, 1) := by decide +kernel
theorem dX3_at_6 : decode cX3_at 6 = .ok (.arraylength, 1) := by decide +kernel
theorem dX3_at_7 : decode cX3_at 7 = .ok (.if_icmp .ge 9, 3) := by decide +kernel
theorem dX3_at_10 : decode cX3_at 10 = .ok (.aload_n 0, 1) := by decide +kernel
theorem dX3_at_11 : decode cX3_at 11 = .ok (.iload_n 1, 1) := by decide +kernel
theorem dX3_at_12 : decode cX3_at 12 = .ok (.iaload, 1) := by decide +kernel
theorem dX3_at_13 : decode cX3_at 13 = .ok (.goto 5, 3) := by decide +kernel
theorem dX3_at_16 : decode cX3_at 16 = .ok (.bipush (-9), 2) := by decide +kernel
theorem dX3_at_18 : decode cX3_at 18 = .ok (.ireturn, 1) := by decide +kernel
theorem dX3_hasBit_0 : decode cX3_hasBit 0 = .ok (.iload_n 1, 1) := by decide +kernel
theorem dX3_hasBit_1 : decode cX3_hasBit 1 = .ok (.ifCond .lt 21, 3) := by decide +kernel
theorem dX3_hasBit_4 : decode cX3_hasBit 4 = .ok (.iload_n 1, 1) := by decide +kernel
theorem dX3_hasBit_5 : decode cX3_hasBit 5 = .ok (.bipush 16, 2) := by decide +kernel
theorem dX3_hasBit_7 : decode cX3_hasBit 7 = .ok (.if_icmp .ge 15, 3) := by decide +kernel
theorem dX3_hasBit_10 : decode cX3_hasBit 10 = .ok (.iload_n 0, 1) := by decide +kernel
theorem dX3_hasBit_11 : decode cX3_hasBit 11 = .ok (.iload_n 1, 1) := by decide +kernel
theorem dX3_hasBit_12 : decode cX3_hasBit 12 = .ok (.ishr, 1) := by decide +kernel
theorem dX3_hasBit_13 : decode cX3_hasBit 13 = .ok (.iconst 1, 1) := by decide +kernel
theorem dX3_hasBit_14 : decode cX3_hasBit 14 = .ok (.iand, 1) := by decide +kernel
theorem dX3_hasBit_15 : decode cX3_hasBit 15 = .ok (.ifCond .eq 7, 3) := by decide +kernel
theorem dX3_hasBit_18 : decode cX3_hasBit 18 = .ok (.iconst 1, 1) := by decide +kernel
theorem dX3_hasBit_19 : decode cX3_hasBit 19 = .ok (.goto 4, 3) := by decide +kernel
theorem dX3_hasBit_22 : decode cX3_hasBit 22 = .ok (.iconst 0, 1) := by decide +kernel
theorem dX3_hasBit_23 : decode cX3_hasBit 23 = .ok (.ireturn, 1) := by decide +kernel
theorem dX4_init_0 : decode cX4_init 0 = .ok (.aload_n 0, 1) := by decide +kernel
theorem dX4_init_1 : decode cX4_init 1 = .ok (.invokespecial 1, 3) := by decide +kernel
theorem dX4_init_4 : decode cX4_init 4 = .ok (.aload_n 0, 1) := by decide +kernel
theorem dX4_init_5 : decode cX4_init 5 = .ok (.bipush 97, 2) := by decide +kernel
theorem dX4_init_7 : decode cX4_init 7 = .ok (.newarray .int, 2) := by decide +kernel
theorem dX4_init_9 : decode cX4_init 9 = .ok (.putfield 7, 3) := by decide +kernel
theorem dX4_init_12 : decode cX4_init 12 = .ok (.aload_n 0, 1) := by decide +kernel
theorem dX4_init_13 : decode cX4_init 13 = .ok (.bipush 97, 2) := by decide +kernel
theorem dX4_init_15 : decode cX4_init 15 = .ok (.newarray .int, 2) := by decide +kernel
theorem dX4_init_17 : decode cX4_init 17 = .ok (.putfield 13, 3) := by decide +kernel
theorem dX4_init_20 : decode cX4_init 20 = .ok (.aload_n 0, 1) := by decide +kernel
theorem dX4_init_21 : decode cX4_init 21 = .ok (.bipush 36, 2) := by decide +kernel
theorem dX4_init_23 : decode cX4_init 23 = .ok (.newarray .int, 2) := by decide +kernel
theorem dX4_init_25 : decode cX4_init 25 = .ok (.putfield 16, 3) := by decide +kernel
theorem dX4_init_28 : decode cX4_init 28 = .ok (.aload_n 0, 1) := by decide +kernel
theorem dX4_init_29 : decode cX4_init 29 = .ok (.bipush 36, 2) := by decide +kernel
theorem dX4_init_31 : decode cX4_init 31 = .ok (.newarray .int, 2) := by decide +kernel
theorem dX4_init_33 : decode cX4_init 33 = .ok (.putfield 19, 3) := by decide +kernel
theorem dX4_init_36 : decode cX4_init 36 = .ok (.aload_n 0, 1) := by decide +kernel
theorem dX4_init_37 : decode cX4_init 37 = .ok (.sipush 216, 3) := by decide +kernel
theorem dX4_init_40 : decode cX4_init 40 = .ok (.newarray .int, 2) := by decide +kernel
theorem dX4_init_42 : decode cX4_init 42 = .ok (.putfield 22, 3) := by decide +kernel
theorem dX4_init_45 : decode cX4_init 45 = .ok (.aload_n 0, 1) := by decide +kernel
theorem dX4_init_46 : decode cX4_init 46 = .ok (.bipush 72, 2) := by decide +kernel
theorem dX4_init_48 : decode cX4_init 48 = .ok (.newarray .int, 2) := by decide +kernel
theorem dX4_init_50 : decode cX4_init 50 = .ok (.putfield 25, 3) := by decide +kernel
theorem dX4_init_53 : decode cX4_init 53 = .ok (.aload_n 0, 1) := by decide +kernel
theorem dX4_init_54 : decode cX4_init 54 = .ok (.iconst 2, 1) := by decide +kernel
theorem dX4_init_55 : decode cX4_init 55 = .ok (.newarray .boolean, 2) := by decide +kernel
theorem dX4_init_57 : decode cX4_init 57 = .ok (.putfield 28, 3) := by decide +kernel
theorem dX4_init_60 : decode cX4_init 60 = .ok (.aload_n 0, 1) := by decide +kernel
theorem dX4_init_61 : decode cX4_init 61 = .ok (.bipush 16, 2) := by decide +kernel
theorem dX4_init_63 : decode cX4_init 63 = .ok (.newarray .int, 2) := by decide +kernel
theorem dX4_init_65 : decode cX4_init 65 = .ok (.putfield 32, 3) := by decide +kernel
theorem dX4_init_68 : decode cX4_init 68 = .ok (.aload_n 0, 1) := by decide +kernel
theorem dX4_init_69 : decode cX4_init 69 = .ok (.bipush 16, 2) := by decide +kernel
theorem dX4_init_71 : decode cX4_init 71 = .ok (.newarray .int, 2) := by decide +kernel
theorem dX4_init_73 : decode cX4_init 73 = .ok (.putfield 35, 3) := by decide +kernel
theorem dX4_init_76 : decode cX4_init 76 = .ok (.aload_n 0, 1) := by decide +kernel
theorem dX4_init_77 : decode cX4_init 77 = .ok (.sipush 160, 3) := by decide +kernel
theorem dX4_init_80 : decode cX4_init 80 = .ok (.newarray .int, 2) := by decide +kernel
theorem dX4_init_82 : decode cX4_init 82 = .ok (.putfield 38, 3) := by decide +kernel
theorem dX4_init_85 : decode cX4_init 85 = .ok (.aload_n 0, 1) := by decide +kernel
theorem dX4_init_86 : decode cX4_init 86 = .ok (.getfield 7, 3) := by decide +kernel
theorem dX4_init_89 : decode cX4_init 89 = .ok (.invokestatic 41, 3) := by decide +kernel
theorem dX4_init_92 : decode cX4_init 92 = .ok (.aload_n 0, 1) := by decide +kernel
theorem dX4_init_93 : decode cX4_init 93 = .ok (.invokevirtual 45, 3) := by decide +kernel
theorem dX4_init_96 : decode cX4_init 96 = .ok (.return_, 1) := by decide +kernel
theorem dX4_in_0 : decode cX4_in 0 = .ok (.iload_n 0, 1) := by decide +kernel
theorem dX4_in_1 : decode cX4_in 1 = .ok (.iload_n 1, 1) := by decide +kernel
theorem dX4_in_2 : decode cX4_in 2 = .ok (.if_icmp .lt 12, 3) := by decide +kernel
theorem dX4_in_5 : decode cX4_in 5 = .ok (.iload_n 0, 1) := by decide +kernel
theorem dX4_in_6 : decode cX4_in 6 = .ok (.iload_n 2, 1) := by decide +kernel
theorem dX4_in_7 : decode cX4_in 7 = .ok (.if_icmp .gt 7, 3) := by decide +kernel
theorem dX4_in_10 : decode cX4_in 10 = .ok (.iconst 1, 1) := by decide +kernel
theorem dX4_in_11 : decode cX4_in 11 = .ok (.goto 4, 3) := by decide +kernel
theorem dX4_in_14 : decode cX4_in 14 = .ok (.iconst 0, 1) := by decide +kernel
theorem dX4_in_15 : decode cX4_in 15 = .ok (.ireturn, 1) := by decide +kernel
theorem dX4_has_0 : decode cX4_has 0 = .ok (.iload_n 0, 1) := by decide +kernel
theorem dX4_has_1 : decode cX4_has 1 = .ok (.iload_n 1, 1) := by decide +kernel
theorem dX4_has_2 : decode cX4_has 2 = .ok (.ishr, 1) := by decide +kernel
theorem dX4_has_3 : decode cX4_has 3 = .ok (.iconst 1, 1) := by decide +kernel
theorem dX4_has_4 : decode cX4_has 4 = .ok (.iand, 1) := by decide +kernel
theorem dX4_has_5 : decode cX4_has 5 = .ok (.iconst 1, 1) := by decide +kernel
theorem dX4_has_6 : decode cX4_has 6 = .ok (.if_icmp .ne 7, 3) := by decide +kernel
theorem dX4_has_9 : decode cX4_has 9 = .ok (.iconst 1, 1) := by decide +kernel
theorem dX4_has_10 : decode cX4_has 10 = .ok (.goto 4, 3) := by decide +kernel
theorem dX4_has_13 : decode cX4_has 13 = .ok (.iconst 0, 1) := by decide +kernel
theorem dX4_has_14 : decode cX4_has 14 = .ok (.ireturn, 1) := by decide +kernel
theorem dX4_begin_0 : decode cX4_begin 0 = .ok (.iconst 0, 1) := by decide +kernel
theorem dX4_begin_1 : decode cX4_begin 1 = .ok (.istore_n 1, 1) := by decide +kernel
theorem dX4_begin_2 : decode cX4_begin 2 = .ok (.iload_n 1, 1) := by decide +kernel
theorem dX4_begin_3 : decode cX4_begin 3 = .ok (.bipush 97, 2) := by decide +kernel
theorem dX4_begin_5 : decode cX4_begin 5 = .ok (.if_icmp .ge 13, 3) := by decide +kernel
theorem dX4_begin_8 : decode cX4_begin 8 = .ok (.aload_n 0, 1) := by decide +kernel
theorem dX4_begin_9 : decode cX4_begin 9 = .ok (.iload_n 1, 1) := by decide +kernel
theorem dX4_begin_10 : decode cX4_begin 10 = .ok (.iconst 0, 1) := by decide +kernel
theorem dX4_begin_11 : decode cX4_begin 11 = .ok (.iastore, 1) := by decide +kernel
theorem dX4_begin_12 : decode cX4_begin 12 = .ok (.iinc 1 1, 3) := by decide +kernel
theorem dX4_begin_15 : decode cX4_begin 15 = .ok (.goto (-13), 3) := by decide +kernel
theorem dX4_begin_18 : decode cX4_begin 18 = .ok (.aload_n 0, 1) := by decide +kernel
theorem dX4_begin_19 : decode cX4_begin 19 = .ok (.bipush 92, 2) := by decide +kernel
theorem dX4_begin_21 : decode cX4_begin 21 = .ok (.iconst 2, 1) := by decide +kernel
theorem dX4_begin_22 : decode cX4_begin 22 = .ok (.iastore, 1) := by decide +kernel
theorem dX4_begin_23 : decode cX4_begin 23 = .ok (.aload_n 0, 1) := by decide +kernel
theorem dX4_begin_24 : decode cX4_begin 24 = .ok (.bipush 93, 2) := by decide +kernel
theorem dX4_begin_26 : decode cX4_begin 26 = .ok (.iconst 3, 1) := by decide +kernel
theorem dX4_begin_27 : decode cX4_begin 27 = .ok (.iastore, 1) := by decide +kernel
theorem dX4_begin_28 : decode cX4_begin 28 = .ok (.aload_n 0, 1) := by decide +kernel
theorem dX4_begin_29 : decode cX4_begin 29 = .ok (.bipush 94, 2) := by decide +kernel
theorem dX4_begin_31 : decode cX4_begin 31 = .ok (.iconst 5, 1) := by decide +kernel
theorem dX4_begin_32 : decode cX4_begin 32 = .ok (.iastore, 1) := by decide +kernel
theorem dX4_begin_33 : decode cX4_begin 33 = .ok (.return_, 1) := by decide +kernel
theorem dX4_start_0 : decode cX4_start 0 = .ok (.iconst 0, 1) := by decide +kernel
theorem dX4_start_1 : decode cX4_start 1 = .ok (.istore_n 1, 1) := by decide +kernel
theorem dX4_start_2 : decode cX4_start 2 = .ok (.iload_n 1, 1) := by decide +kernel
theorem dX4_start_3 : decode cX4_start 3 = .ok (.bipush 36, 2) := by decide +kernel
theorem dX4_start_5 : decode cX4_start 5 = .ok (.if_icmp .ge 16, 3) := by decide +kernel
theorem dX4_start_8 : decode cX4_start 8 = .ok (.aload_n 0, 1) := by decide +kernel
theorem dX4_start_9 : decode cX4_start 9 = .ok (.getfield 16, 3) := by decide +kernel
theorem dX4_start_12 : decode cX4_start 12 = .ok (.iload_n 1, 1) := by decide +kernel
theorem dX4_start_13 : decode cX4_start 13 = .ok (.iconst 0, 1) := by decide +kernel
theorem dX4_start_14 : decode cX4_start 14 = .ok (.iastore, 1) := by decide +kernel
theorem dX4_start_15 : decode cX4_start 15 = .ok (.iinc 1 1, 3) := by decide +kernel
theorem dX4_start_18 : decode cX4_start 18 = .ok (.goto (-16), 3) := by decide +kernel
theorem dX4_start_21 : decode cX4_start 21 = .ok (.aload_n 0, 1) := by decide +kernel
theorem dX4_start_22 : decode cX4_start 22 = .ok (.getfield 16, 3) := by decide +kernel
theorem dX4_start_25 : decode cX4_start 25 = .ok (.iconst 0, 1) := by decide +kernel
theorem dX4_start_26 : decode cX4_start 26 = .ok (.iconst 2, 1) := by decide +kernel
theorem dX4_start_27 : decode cX4_start 27 = .ok (.iastore, 1) := by decide +kernel
theorem dX4_start_28 : decode cX4_start 28 = .ok (.aload_n 0, 1) := by decide +kernel
theorem dX4_start_29 : decode cX4_start 29 = .ok (.iconst 0, 1) := by decide +kernel
theorem dX4_start_30 : decode cX4_start 30 = .ok (.putfield 48, 3) := by decide +kernel
theorem dX4_start_33 : decode cX4_start 33 = .ok (.aload_n 0, 1) := by decide +kernel
theorem dX4_start_34 : decode cX4_start 34 = .ok (.getfield 28, 3) := by decide +kernel
theorem dX4_start_37 : decode cX4_start 37 = .ok (.iconst 0, 1) := by decide +kernel
theorem dX4_start_38 : decode cX4_start 38 = .ok (.iconst 0, 1) := by decide +kernel
theorem dX4_start_39 : decode cX4_start 39 = .ok (.bastore, 1) := by decide +kernel
theorem dX4_start_40 : decode cX4_start 40 = .ok (.aload_n 0, 1) := by decide +kernel
theorem dX4_start_41 : decode cX4_start 41 = .ok (.getfield 28, 3) := by decide +kernel
theorem dX4_start_44 : decode cX4_start 44 = .ok (.iconst 1, 1) := by decide +kernel
theorem dX4_start_45 : decode cX4_start 45 = .ok (.iconst 0, 1) := by decide +kernel
theorem dX4_start_46 : decode cX4_start 46 = .ok (.bastore, 1) := by decide +kernel
theorem dX4_start_47 : decode cX4_start 47 = .ok (.return_, 1) := by decide +kernel
theorem dX4_many_0 : decode cX4_many 0 = .ok (.aload_n 0, 1) := by decide +kernel
theorem dX4_many_1 : decode cX4_many 1 = .ok (.getfield 7, 3) := by decide +kernel
theorem dX4_many_4 : decode cX4_many 4 = .ok (.bipush 95, 2) := by decide +kernel
theorem dX4_many_6 : decode cX4_many 6 = .ok (.iaload, 1) := by decide +kernel
theorem dX4_many_7 : decode cX4_many 7 = .ok (.ireturn, 1) := by decide +kernel
theorem dX4_isNode_0 : decode cX4_isNode 0 = .ok (.iload_n 1, 1) := by decide +kernel
theorem dX4_isNode_1 : decode cX4_isNode 1 = .ok (.iconst 0, 1) := by decide +kernel
theorem dX4_isNode_2 : decode cX4_isNode 2 = .ok (.aload_n 0, 1) := by decide +kernel
theorem dX4_isNode_3 : decode cX4_isNode 3 = .ok (.invokevirtual 52, 3) := by decide +kernel
theorem dX4_isNode_6 : decode cX4_isNode 6 = .ok (.iconst 1, 1) := by decide +kernel
theorem dX4_isNode_7 : decode cX4_isNode 7 = .ok (.isub, 1) := by decide +kernel
theorem dX4_isNode_8 : decode cX4_isNode 8 = .ok (.invokestatic 56, 3) := by decide +kernel
theorem dX4_isNode_11 : decode cX4_isNode 11 = .ok (.ireturn, 1) := by decide +kernel
theorem dX4_sort_0 : decode cX4_sort 0 = .ok (.aload_n 0, 1) := by decide +kernel
theorem dX4_sort_1 : decode cX4_sort 1 = .ok (.getfield 7, 3) := by decide +kernel
theorem dX4_sort_4 : decode cX4_sort 4 = .ok (.iload_n 1, 1) := by decide +kernel
theorem dX4_sort_5 : decode cX4_sort 5 = .ok (.iaload, 1) := by decide +kernel
theorem dX4_sort_6 : decode cX4_sort 6 = .ok (.ireturn, 1) := by decide +kernel
theorem dX4_isLeaf_0 : decode cX4_isLeaf 0 = .ok (.aload_n 0, 1) := by decide +kernel
theorem dX4_isLeaf_1 : decode cX4_isLeaf 1 = .ok (.getfield 7, 3) := by decide +kernel
theorem dX4_isLeaf_4 : decode cX4_isLeaf 4 = .ok (.iload_n 1, 1) := by decide +kernel
theorem dX4_isLeaf_5 : decode cX4_isLeaf 5 = .ok (.iaload, 1) := by decide +kernel
theorem dX4_isLeaf_6 : decode cX4_isLeaf 6 = .ok (.iconst 1, 1) := by decide +kernel
theorem dX4_isLeaf_7 : decode cX4_isLeaf 7 = .ok (.if_icmp .gt 7, 3) := by decide +kernel
theorem dX4_isLeaf_10 : decode cX4_isLeaf 10 = .ok (.iconst 1, 1) := by decide +kernel
theorem dX4_isLeaf_11 : decode cX4_isLeaf 11 = .ok (.goto 4, 3) := by decide +kernel
theorem dX4_isLeaf_14 : decode cX4_isLeaf 14 = .ok (.iconst 0, 1) := by decide +kernel
theorem dX4_isLeaf_15 : decode cX4_isLeaf 15 = .ok (.ireturn, 1) := by decide +kernel
theorem dX4_isRegister_0 : decode cX4_isRegister 0 = .ok (.aload_n 0, 1) := by decide +kernel
theorem dX4_isRegister_1 : decode cX4_isRegister 1 = .ok (.iload_n 1, 1) := by decide +kernel
theorem dX4_isRegister_2 : decode cX4_isRegister 2 = .ok (.invokevirtual 60, 3) := by decide +kernel
theorem dX4_isRegister_5 : decode cX4_isRegister 5 = .ok (.ifCond .eq 16, 3) := by decide +kernel
theorem dX4_isRegister_8 : decode cX4_isRegister 8 = .ok (.aload_n 0, 1) := by decide +kernel
theorem dX4_isRegister_9 : decode cX4_isRegister 9 = .ok (.iload_n 1, 1) := by decide +kernel
theorem dX4_isRegister_10 : decode cX4_isRegister 10 = .ok (.invokevirtual 64, 3) := by decide +kernel
theorem dX4_isRegister_13 : decode cX4_isRegister 13 = .ok (.iconst 1, 1) := by decide +kernel
theorem dX4_isRegister_14 : decode cX4_isRegister 14 = .ok (.if_icmp .ne 7, 3) := by decide +kernel
theorem dX4_isRegister_17 : decode cX4_isRegister 17 = .ok (.iconst 1, 1) := by decide +kernel
theorem dX4_isRegister_18 : decode cX4_isRegister 18 = .ok (.goto 4, 3) := by decide +kernel
theorem dX4_isRegister_21 : decode cX4_isRegister 21 = .ok (.iconst 0, 1) := by decide +kernel
theorem dX4_isRegister_22 : decode cX4_isRegister 22 = .ok (.ireturn, 1) := by decide +kernel
theorem dX4_clock_0 : decode cX4_clock 0 = .ok (.aload_n 0, 1) := by decide +kernel
theorem dX4_clock_1 : decode cX4_clock 1 = .ok (.getfield 7, 3) := by decide +kernel
theorem dX4_clock_4 : decode cX4_clock 4 = .ok (.bipush 16, 2) := by decide +kernel
theorem dX4_clock_6 : decode cX4_clock 6 = .ok (.iload_n 1, 1) := by decide +kernel
theorem dX4_clock_7 : decode cX4_clock 7 = .ok (.iadd, 1) := by decide +kernel
theorem dX4_clock_8 : decode cX4_clock 8 = .ok (.iaload, 1) := by decide +kernel
theorem dX4_clock_9 : decode cX4_clock 9 = .ok (.ireturn, 1) := by decide +kernel
theorem dX4_of_0 : decode cX4_of 0 = .ok (.aload_n 0, 1) := by decide +kernel
theorem dX4_of_1 : decode cX4_of 1 = .ok (.getfield 7, 3) := by decide +kernel
theorem dX4_of_4 : decode cX4_of 4 = .ok (.bipush 32, 2) := by decide +kernel
theorem dX4_of_6 : decode cX4_of 6 = .ok (.iconst 3, 1) := by decide +kernel
theorem dX4_of_7 : decode cX4_of 7 = .ok (.iload_n 1, 1) := by decide +kernel
theorem dX4_of_8 : decode cX4_of 8 = .ok (.imul, 1) := by decide +kernel
theorem dX4_of_9 : decode cX4_of 9 = .ok (.iadd, 1) := by decide +kernel
theorem dX4_of_10 : decode cX4_of 10 = .ok (.iload_n 2, 1) := by decide +kernel
theorem dX4_of_11 : decode cX4_of 11 = .ok (.iadd, 1) := by decide +kernel
theorem dX4_of_12 : decode cX4_of 12 = .ok (.iaload, 1) := by decide +kernel
theorem dX4_of_13 : decode cX4_of 13 = .ok (.ireturn, 1) := by decide +kernel
theorem dX4_hasMany_0 : decode cX4_hasMany 0 = .ok (.iload_n 0, 1) := by decide +kernel
theorem dX4_hasMany_1 : decode cX4_hasMany 1 = .ok (.ifCond .ne 7, 3) := by decide +kernel
theorem dX4_hasMany_4 : decode cX4_hasMany 4 = .ok (.iconst 0, 1) := by decide +kernel
theorem dX4_hasMany_5 : decode cX4_hasMany 5 = .ok (.goto 22, 3) := by decide +kernel
theorem dX4_hasMany_8 : decode cX4_hasMany 8 = .ok (.iload_n 0, 1) := by decide +kernel
theorem dX4_hasMany_9 : decode cX4_hasMany 9 = .ok (.iconst 1, 1) := by decide +kernel
theorem dX4_hasMany_10 : decode cX4_hasMany 10 = .ok (.if_icmp .ne 7, 3) := by decide +kernel
theorem dX4_hasMany_13 : decode cX4_hasMany 13 = .ok (.iconst 1, 1) := by decide +kernel
theorem dX4_hasMany_14 : decode cX4_hasMany 14 = .ok (.goto 13, 3) := by decide +kernel
theorem dX4_hasMany_17 : decode cX4_hasMany 17 = .ok (.iload_n 0, 1) := by decide +kernel
theorem dX4_hasMany_18 : decode cX4_hasMany 18 = .ok (.iconst 5, 1) := by decide +kernel
theorem dX4_hasMany_19 : decode cX4_hasMany 19 = .ok (.if_icmp .ne 7, 3) := by decide +kernel
theorem dX4_hasMany_22 : decode cX4_hasMany 22 = .ok (.iconst 3, 1) := by decide +kernel
theorem dX4_hasMany_23 : decode cX4_hasMany 23 = .ok (.goto 4, 3) := by decide +kernel
theorem dX4_hasMany_26 : decode cX4_hasMany 26 = .ok (.iconst 2, 1) := by decide +kernel
theorem dX4_hasMany_27 : decode cX4_hasMany 27 = .ok (.ireturn, 1) := by decide +kernel
theorem dX4_often_0 : decode cX4_often 0 = .ok (.iconst 0, 1) := by decide +kernel
theorem dX4_often_1 : decode cX4_often 1 = .ok (.istore_n 3, 1) := by decide +kernel
theorem dX4_often_2 : decode cX4_often 2 = .ok (.iconst 0, 1) := by decide +kernel
theorem dX4_often_3 : decode cX4_often 3 = .ok (.istore 4, 2) := by decide +kernel
theorem dX4_often_5 : decode cX4_often 5 = .ok (.iload 4, 2) := by decide +kernel
theorem dX4_often_7 : decode cX4_often 7 = .ok (.aload_n 0, 1) := by decide +kernel
theorem dX4_often_8 : decode cX4_often 8 = .ok (.iload_n 1, 1) := by decide +kernel
theorem dX4_often_9 : decode cX4_often 9 = .ok (.invokevirtual 64, 3) := by decide +kernel
theorem dX4_often_12 : decode cX4_often 12 = .ok (.invokestatic 68, 3) := by decide +kernel
theorem dX4_often_15 : decode cX4_often 15 = .ok (.if_icmp .ge 28, 3) := by decide +kernel
theorem dX4_often_18 : decode cX4_often 18 = .ok (.iload_n 3, 1) := by decide +kernel
theorem dX4_often_19 : decode cX4_often 19 = .ok (.aload_n 0, 1) := by decide +kernel
theorem dX4_often_20 : decode cX4_often 20 = .ok (.iload_n 1, 1) := by decide +kernel
theorem dX4_often_21 : decode cX4_often 21 = .ok (.iload 4, 2) := by decide +kernel
theorem dX4_often_23 : decode cX4_often 23 = .ok (.invokevirtual 71, 3) := by decide +kernel
theorem dX4_often_26 : decode cX4_often 26 = .ok (.iload_n 2, 1) := by decide +kernel
theorem dX4_often_27 : decode cX4_often 27 = .ok (.if_icmp .ne 7, 3) := by decide +kernel
theorem dX4_often_30 : decode cX4_often 30 = .ok (.iconst 1, 1) := by decide +kernel
theorem dX4_often_31 : decode cX4_often 31 = .ok (.goto 4, 3) := by decide +kernel
theorem dX4_often_34 : decode cX4_often 34 = .ok (.iconst 0, 1) := by decide +kernel
theorem dX4_often_35 : decode cX4_often 35 = .ok (.iadd, 1) := by decide +kernel
theorem dX4_often_36 : decode cX4_often 36 = .ok (.istore_n 3, 1) := by decide +kernel
theorem dX4_often_37 : decode cX4_often 37 = .ok (.iinc 4 1, 3) := by decide +kernel
theorem dX4_often_40 : decode cX4_often 40 = .ok (.goto (-35), 3) := by decide +kernel
theorem dX4_often_43 : decode cX4_often 43 = .ok (.iload_n 3, 1) := by decide +kernel
theorem dX4_often_44 : decode cX4_often 44 = .ok (.ireturn, 1) := by decide +kernel
theorem dX4_findLeaves_0 : decode cX4_findLeaves 0 = .ok (.iconst 0, 1) := by decide +kernel
theorem dX4_findLeaves_1 : decode cX4_findLeaves 1 = .ok (.istore_n 1, 1) := by decide +kernel
theorem dX4_findLeaves_2 : decode cX4_findLeaves 2 = .ok (.iload_n 1, 1) := by decide +kernel
theorem dX4_findLeaves_3 : decode cX4_findLeaves 3 = .ok (.aload_n 0, 1) := by decide +kernel
theorem dX4_findLeaves_4 : decode cX4_findLeaves 4 = .ok (.invokevirtual 52, 3) := by decide +kernel
theorem dX4_findLeaves_7 : decode cX4_findLeaves 7 = .ok (.if_icmp .ge 78, 3) := by decide +kernel
theorem dX4_findLeaves_10 : decode cX4_findLeaves 10 = .ok (.aload_n 0, 1) := by decide +kernel
theorem dX4_findLeaves_11 : decode cX4_findLeaves 11 = .ok (.getfield 32, 3) := by decide +kernel
theorem dX4_findLeaves_14 : decode cX4_findLeaves 14 = .ok (.iload_n 1, 1) := by decide +kernel
theorem dX4_findLeaves_15 : decode cX4_findLeaves 15 = .ok (.aload_n 0, 1) := by decide +kernel
theorem dX4_findLeaves_16 : decode cX4_findLeaves 16 = .ok (.iload_n 1, 1) := by decide +kernel
theorem dX4_findLeaves_17 : decode cX4_findLeaves 17 = .ok (.invokevirtual 75, 3) := by decide +kernel
theorem dX4_findLeaves_20 : decode cX4_findLeaves 20 = .ok (.ifCond .eq 9, 3) := by decide +kernel
theorem dX4_findLeaves_23 : decode cX4_findLeaves 23 = .ok (.iconst 1, 1) := by decide +kernel
theorem dX4_findLeaves_24 : decode cX4_findLeaves 24 = .ok (.iload_n 1, 1) := by decide +kernel
theorem dX4_findLeaves_25 : decode cX4_findLeaves 25 = .ok (.ishl, 1) := by decide +kernel
theorem dX4_findLeaves_26 : decode cX4_findLeaves 26 = .ok (.goto 4, 3) := by decide +kernel
theorem dX4_findLeaves_29 : decode cX4_findLeaves 29 = .ok (.iconst 0, 1) := by decide +kernel
theorem dX4_findLeaves_30 : decode cX4_findLeaves 30 = .ok (.iastore, 1) := by decide +kernel
theorem dX4_findLeaves_31 : decode cX4_findLeaves 31 = .ok (.iconst 0, 1) := by decide +kernel
theorem dX4_findLeaves_32 : decode cX4_findLeaves 32 = .ok (.istore_n 2, 1) := by decide +kernel
theorem dX4_findLeaves_33 : decode cX4_findLeaves 33 = .ok (.iload_n 2, 1) := by decide +kernel
theorem dX4_findLeaves_34 : decode cX4_findLeaves 34 = .ok (.aload_n 0, 1) := by decide +kernel
theorem dX4_findLeaves_35 : decode cX4_findLeaves 35 = .ok (.iload_n 1, 1) := by decide +kernel
theorem dX4_findLeaves_36 : decode cX4_findLeaves 36 = .ok (.invokevirtual 64, 3) := by decide +kernel
theorem dX4_findLeaves_39 : decode cX4_findLeaves 39 = .ok (.invokestatic 68, 3) := by decide +kernel
theorem dX4_findLeaves_42 : decode cX4_findLeaves 42 = .ok (.if_icmp .ge 37, 3) := by decide +kernel
theorem dX4_findLeaves_45 : decode cX4_findLeaves 45 = .ok (.aload_n 0, 1) := by decide +kernel
theorem dX4_findLeaves_46 : decode cX4_findLeaves 46 = .ok (.iload_n 1, 1) := by decide +kernel
theorem dX4_findLeaves_47 : decode cX4_findLeaves 47 = .ok (.invokevirtual 75, 3) := by decide +kernel
theorem dX4_findLeaves_50 : decode cX4_findLeaves 50 = .ok (.ifCond .ne 29, 3) := by decide +kernel
theorem dX4_findLeaves_53 : decode cX4_findLeaves 53 = .ok (.aload_n 0, 1) := by decide +kernel
theorem dX4_findLeaves_54 : decode cX4_findLeaves 54 = .ok (.getfield 32, 3) := by decide +kernel
theorem dX4_findLeaves_57 : decode cX4_findLeaves 57 = .ok (.iload_n 1, 1) := by decide +kernel
theorem dX4_findLeaves_58 : decode cX4_findLeaves 58 = .ok (.dup2, 1) := by decide +kernel
theorem dX4_findLeaves_59 : decode cX4_findLeaves 59 = .ok (.iaload, 1) := by decide +kernel
theorem dX4_findLeaves_60 : decode cX4_findLeaves 60 = .ok (.aload_n 0, 1) := by decide +kernel
theorem dX4_findLeaves_61 : decode cX4_findLeaves 61 = .ok (.getfield 32, 3) := by decide +kernel
theorem dX4_findLeaves_64 : decode cX4_findLeaves 64 = .ok (.aload_n 0, 1) := by decide +kernel
theorem dX4_findLeaves_65 : decode cX4_findLeaves 65 = .ok (.iload_n 1, 1) := by decide +kernel
theorem dX4_findLeaves_66 : decode cX4_findLeaves 66 = .ok (.iload_n 2, 1) := by decide +kernel
theorem dX4_findLeaves_67 : decode cX4_findLeaves 67 = .ok (.invokevirtual 71, 3) := by decide +kernel
theorem dX4_findLeaves_70 : decode cX4_findLeaves 70 = .ok (.iaload, 1) := by decide +kernel
theorem dX4_findLeaves_71 : decode cX4_findLeaves 71 = .ok (.ior, 1) := by decide +kernel
theorem dX4_findLeaves_72 : decode cX4_findLeaves 72 = .ok (.iastore, 1) := by decide +kernel
theorem dX4_findLeaves_73 : decode cX4_findLeaves 73 = .ok (.iinc 2 1, 3) := by decide +kernel
theorem dX4_findLeaves_76 : decode cX4_findLeaves 76 = .ok (.goto (-43), 3) := by decide +kernel
theorem dX4_findLeaves_79 : decode cX4_findLeaves 79 = .ok (.iinc 1 1, 3) := by decide +kernel
theorem dX4_findLeaves_82 : decode cX4_findLeaves 82 = .ok (.goto (-80), 3) := by decide +kernel
