theorem dX0_init_0 : decode cX0_init 0 = .ok (.aload_n 0, 1) := by decide +kernel
theorem dX0_init_1 : decode cX0_init 1 = .ok (.invokespecial 3, 3) := by decide +kernel
theorem dX0_init_4 : decode cX0_init 4 = .ok (.aload_n 0, 1) := by decide +kernel
theorem dX0_init_5 : decode cX0_init 5 = .ok (.bipush 16, 2) := by decide +kernel
theorem dX0_init_7 : decode cX0_init 7 = .ok (.newarray .int, 2) := by decide +kernel
theorem dX0_init_9 : decode cX0_init 9 = .ok (.putfield 9, 3) := by decide +kernel
theorem dX0_init_12 : decode cX0_init 12 = .ok (.aload_n 0, 1) := by decide +kernel
theorem dX0_init_13 : decode cX0_init 13 = .ok (.bipush 16, 2) := by decide +kernel
theorem dX0_init_15 : decode cX0_init 15 = .ok (.newarray .int, 2) := by decide +kernel
theorem dX0_init_17 : decode cX0_init 17 = .ok (.putfield 15, 3) := by decide +kernel
theorem dX0_init_20 : decode cX0_init 20 = .ok (.aload_n 0, 1) := by decide +kernel
theorem dX0_init_21 : decode cX0_init 21 = .ok (.bipush 48, 2) := by decide +kernel
theorem dX0_init_23 : decode cX0_init 23 = .ok (.newarray .int, 2) := by decide +kernel
theorem dX0_init_25 : decode cX0_init 25 = .ok (.putfield 18, 3) := by decide +kernel
theorem dX0_init_28 : decode cX0_init 28 = .ok (.aload_n 0, 1) := by decide +kernel
theorem dX0_init_29 : decode cX0_init 29 = .ok (.bipush 16, 2) := by decide +kernel
theorem dX0_init_31 : decode cX0_init 31 = .ok (.newarray .int, 2) := by decide +kernel
theorem dX0_init_33 : decode cX0_init 33 = .ok (.putfield 21, 3) := by decide +kernel
theorem dX0_init_36 : decode cX0_init 36 = .ok (.aload_n 0, 1) := by decide +kernel
theorem dX0_init_37 : decode cX0_init 37 = .ok (.bipush 16, 2) := by decide +kernel
theorem dX0_init_39 : decode cX0_init 39 = .ok (.newarray .int, 2) := by decide +kernel
theorem dX0_init_41 : decode cX0_init 41 = .ok (.putfield 24, 3) := by decide +kernel
theorem dX0_init_44 : decode cX0_init 44 = .ok (.aload_n 0, 1) := by decide +kernel
theorem dX0_init_45 : decode cX0_init 45 = .ok (.bipush 16, 2) := by decide +kernel
theorem dX0_init_47 : decode cX0_init 47 = .ok (.newarray .int, 2) := by decide +kernel
theorem dX0_init_49 : decode cX0_init 49 = .ok (.putfield 27, 3) := by decide +kernel
theorem dX0_init_52 : decode cX0_init 52 = .ok (.aload_n 0, 1) := by decide +kernel
theorem dX0_init_53 : decode cX0_init 53 = .ok (.bipush 16, 2) := by decide +kernel
theorem dX0_init_55 : decode cX0_init 55 = .ok (.newarray .int, 2) := by decide +kernel
theorem dX0_init_57 : decode cX0_init 57 = .ok (.putfield 30, 3) := by decide +kernel
theorem dX0_init_60 : decode cX0_init 60 = .ok (.aload_n 0, 1) := by decide +kernel
theorem dX0_init_61 : decode cX0_init 61 = .ok (.bipush 16, 2) := by decide +kernel
theorem dX0_init_63 : decode cX0_init 63 = .ok (.newarray .int, 2) := by decide +kernel
theorem dX0_init_65 : decode cX0_init 65 = .ok (.putfield 33, 3) := by decide +kernel
theorem dX0_init_68 : decode cX0_init 68 = .ok (.aload_n 0, 1) := by decide +kernel
theorem dX0_init_69 : decode cX0_init 69 = .ok (.getstatic 36, 3) := by decide +kernel
theorem dX0_init_72 : decode cX0_init 72 = .ok (.invokevirtual 39, 3) := by decide +kernel
theorem dX0_init_75 : decode cX0_init 75 = .ok (.checkcast 40, 3) := by decide +kernel
theorem dX0_init_78 : decode cX0_init 78 = .ok (.putfield 44, 3) := by decide +kernel
theorem dX0_init_81 : decode cX0_init 81 = .ok (.return_, 1) := by decide +kernel
theorem dX0_empty_0 : decode cX0_empty 0 = .ok (.aload_n 0, 1) := by decide +kernel
theorem dX0_empty_1 : decode cX0_empty 1 = .ok (.iconst 0, 1) := by decide +kernel
theorem dX0_empty_2 : decode cX0_empty 2 = .ok (.putfield 47, 3) := by decide +kernel
theorem dX0_empty_5 : decode cX0_empty 5 = .ok (.aload_n 0, 1) := by decide +kernel
theorem dX0_empty_6 : decode cX0_empty 6 = .ok (.iconst 0, 1) := by decide +kernel
theorem dX0_empty_7 : decode cX0_empty 7 = .ok (.putfield 51, 3) := by decide +kernel
theorem dX0_empty_10 : decode cX0_empty 10 = .ok (.getstatic 36, 3) := by decide +kernel
theorem dX0_empty_13 : decode cX0_empty 13 = .ok (.iconst 0, 1) := by decide +kernel
theorem dX0_empty_14 : decode cX0_empty 14 = .ok (.aload_n 0, 1) := by decide +kernel
theorem dX0_empty_15 : decode cX0_empty 15 = .ok (.getfield 44, 3) := by decide +kernel
theorem dX0_empty_18 : decode cX0_empty 18 = .ok (.iconst 0, 1) := by decide +kernel
theorem dX0_empty_19 : decode cX0_empty 19 = .ok (.iconst 3, 1) := by decide +kernel
theorem dX0_empty_20 : decode cX0_empty 20 = .ok (.invokestatic 54, 3) := by decide +kernel
theorem dX0_empty_23 : decode cX0_empty 23 = .ok (.return_, 1) := by decide +kernel
theorem dX0_isNode_0 : decode cX0_isNode 0 = .ok (.iload_n 1, 1) := by decide +kernel
theorem dX0_isNode_1 : decode cX0_isNode 1 = .ok (.ifCond .lt 15, 3) := by decide +kernel
theorem dX0_isNode_4 : decode cX0_isNode 4 = .ok (.iload_n 1, 1) := by decide +kernel
theorem dX0_isNode_5 : decode cX0_isNode 5 = .ok (.aload_n 0, 1) := by decide +kernel
theorem dX0_isNode_6 : decode cX0_isNode 6 = .ok (.getfield 47, 3) := by decide +kernel
theorem dX0_isNode_9 : decode cX0_isNode 9 = .ok (.if_icmp .ge 7, 3) := by decide +kernel
theorem dX0_isNode_12 : decode cX0_isNode 12 = .ok (.iconst 1, 1) := by decide +kernel
theorem dX0_isNode_13 : decode cX0_isNode 13 = .ok (.goto 4, 3) := by decide +kernel
theorem dX0_isNode_16 : decode cX0_isNode 16 = .ok (.iconst 0, 1) := by decide +kernel
theorem dX0_isNode_17 : decode cX0_isNode 17 = .ok (.ireturn, 1) := by decide +kernel
theorem dX0_isOf_0 : decode cX0_isOf 0 = .ok (.iload_n 1, 1) := by decide +kernel
theorem dX0_isOf_1 : decode cX0_isOf 1 = .ok (.ifCond .lt 25, 3) := by decide +kernel
theorem dX0_isOf_4 : decode cX0_isOf 4 = .ok (.iload_n 1, 1) := by decide +kernel
theorem dX0_isOf_5 : decode cX0_isOf 5 = .ok (.aload_n 0, 1) := by decide +kernel
theorem dX0_isOf_6 : decode cX0_isOf 6 = .ok (.getfield 47, 3) := by decide +kernel
theorem dX0_isOf_9 : decode cX0_isOf 9 = .ok (.if_icmp .ge 17, 3) := by decide +kernel
theorem dX0_isOf_12 : decode cX0_isOf 12 = .ok (.aload_n 0, 1) := by decide +kernel
theorem dX0_isOf_13 : decode cX0_isOf 13 = .ok (.getfield 9, 3) := by decide +kernel
theorem dX0_isOf_16 : decode cX0_isOf 16 = .ok (.iload_n 1, 1) := by decide +kernel
theorem dX0_isOf_17 : decode cX0_isOf 17 = .ok (.iaload, 1) := by decide +kernel
theorem dX0_isOf_18 : decode cX0_isOf 18 = .ok (.iload_n 2, 1) := by decide +kernel
theorem dX0_isOf_19 : decode cX0_isOf 19 = .ok (.if_icmp .ne 7, 3) := by decide +kernel
theorem dX0_isOf_22 : decode cX0_isOf 22 = .ok (.iconst 1, 1) := by decide +kernel
theorem dX0_isOf_23 : decode cX0_isOf 23 = .ok (.goto 4, 3) := by decide +kernel
theorem dX0_isOf_26 : decode cX0_isOf 26 = .ok (.iconst 0, 1) := by decide +kernel
theorem dX0_isOf_27 : decode cX0_isOf 27 = .ok (.ireturn, 1) := by decide +kernel
theorem dX0_isLeaf_0 : decode cX0_isLeaf 0 = .ok (.iload_n 1, 1) := by decide +kernel
theorem dX0_isLeaf_1 : decode cX0_isLeaf 1 = .ok (.ifCond .lt 34, 3) := by decide +kernel
theorem dX0_isLeaf_4 : decode cX0_isLeaf 4 = .ok (.iload_n 1, 1) := by decide +kernel
theorem dX0_isLeaf_5 : decode cX0_isLeaf 5 = .ok (.aload_n 0, 1) := by decide +kernel
theorem dX0_isLeaf_6 : decode cX0_isLeaf 6 = .ok (.getfield 47, 3) := by decide +kernel
theorem dX0_isLeaf_9 : decode cX0_isLeaf 9 = .ok (.if_icmp .ge 26, 3) := by decide +kernel
theorem dX0_isLeaf_12 : decode cX0_isLeaf 12 = .ok (.aload_n 0, 1) := by decide +kernel
theorem dX0_isLeaf_13 : decode cX0_isLeaf 13 = .ok (.getfield 9, 3) := by decide +kernel
theorem dX0_isLeaf_16 : decode cX0_isLeaf 16 = .ok (.iload_n 1, 1) := by decide +kernel
theorem dX0_isLeaf_17 : decode cX0_isLeaf 17 = .ok (.iaload, 1) := by decide +kernel
theorem dX0_isLeaf_18 : decode cX0_isLeaf 18 = .ok (.ifCond .eq 13, 3) := by decide +kernel
theorem dX0_isLeaf_21 : decode cX0_isLeaf 21 = .ok (.aload_n 0, 1) := by decide +kernel
theorem dX0_isLeaf_22 : decode cX0_isLeaf 22 = .ok (.getfield 9, 3) := by decide +kernel
theorem dX0_isLeaf_25 : decode cX0_isLeaf 25 = .ok (.iload_n 1, 1) := by decide +kernel
theorem dX0_isLeaf_26 : decode cX0_isLeaf 26 = .ok (.iaload, 1) := by decide +kernel
theorem dX0_isLeaf_27 : decode cX0_isLeaf 27 = .ok (.iconst 1, 1) := by decide +kernel
theorem dX0_isLeaf_28 : decode cX0_isLeaf 28 = .ok (.if_icmp .ne 7, 3) := by decide +kernel
theorem dX0_isLeaf_31 : decode cX0_isLeaf 31 = .ok (.iconst 1, 1) := by decide +kernel
theorem dX0_isLeaf_32 : decode cX0_isLeaf 32 = .ok (.goto 4, 3) := by decide +kernel
theorem dX0_isLeaf_35 : decode cX0_isLeaf 35 = .ok (.iconst 0, 1) := by decide +kernel
theorem dX0_isLeaf_36 : decode cX0_isLeaf 36 = .ok (.ireturn, 1) := by decide +kernel
theorem dX0_partOf_0 : decode cX0_partOf 0 = .ok (.aload_n 0, 1) := by decide +kernel
theorem dX0_partOf_1 : decode cX0_partOf 1 = .ok (.getfield 18, 3) := by decide +kernel
theorem dX0_partOf_4 : decode cX0_partOf 4 = .ok (.iload_n 1, 1) := by decide +kernel
theorem dX0_partOf_5 : decode cX0_partOf 5 = .ok (.iconst 3, 1) := by decide +kernel
theorem dX0_partOf_6 : decode cX0_partOf 6 = .ok (.imul, 1) := by decide +kernel
theorem dX0_partOf_7 : decode cX0_partOf 7 = .ok (.iload_n 2, 1) := by decide +kernel
theorem dX0_partOf_8 : decode cX0_partOf 8 = .ok (.iadd, 1) := by decide +kernel
theorem dX0_partOf_9 : decode cX0_partOf 9 = .ok (.invokestatic 60, 3) := by decide +kernel
theorem dX0_partOf_12 : decode cX0_partOf 12 = .ok (.ireturn, 1) := by decide +kernel
theorem dX0_periodOf_0 : decode cX0_periodOf 0 = .ok (.aload_n 0, 1) := by decide +kernel
theorem dX0_periodOf_1 : decode cX0_periodOf 1 = .ok (.getfield 44, 3) := by decide +kernel
theorem dX0_periodOf_4 : decode cX0_periodOf 4 = .ok (.iload_n 1, 1) := by decide +kernel
theorem dX0_periodOf_5 : decode cX0_periodOf 5 = .ok (.invokestatic 60, 3) := by decide +kernel
theorem dX0_periodOf_8 : decode cX0_periodOf 8 = .ok (.istore_n 2, 1) := by decide +kernel
theorem dX0_periodOf_9 : decode cX0_periodOf 9 = .ok (.iload_n 2, 1) := by decide +kernel
theorem dX0_periodOf_10 : decode cX0_periodOf 10 = .ok (.iconst 1, 1) := by decide +kernel
theorem dX0_periodOf_11 : decode cX0_periodOf 11 = .ok (.if_icmp .lt 7, 3) := by decide +kernel
theorem dX0_periodOf_14 : decode cX0_periodOf 14 = .ok (.iload_n 2, 1) := by decide +kernel
theorem dX0_periodOf_15 : decode cX0_periodOf 15 = .ok (.goto 4, 3) := by decide +kernel
theorem dX0_periodOf_18 : decode cX0_periodOf 18 = .ok (.iconst 1, 1) := by decide +kernel
theorem dX0_periodOf_19 : decode cX0_periodOf 19 = .ok (.ireturn, 1) := by decide +kernel
theorem dX0_edgesAt_0 : decode cX0_edgesAt 0 = .ok (.iconst 0, 1) := by decide +kernel
theorem dX0_edgesAt_1 : decode cX0_edgesAt 1 = .ok (.istore_n 2, 1) := by decide +kernel
theorem dX0_edgesAt_2 : decode cX0_edgesAt 2 = .ok (.iconst 0, 1) := by decide +kernel
theorem dX0_edgesAt_3 : decode cX0_edgesAt 3 = .ok (.istore_n 3, 1) := by decide +kernel
theorem dX0_edgesAt_4 : decode cX0_edgesAt 4 = .ok (.iload_n 3, 1) := by decide +kernel
theorem dX0_edgesAt_5 : decode cX0_edgesAt 5 = .ok (.iconst 3, 1) := by decide +kernel
theorem dX0_edgesAt_6 : decode cX0_edgesAt 6 = .ok (.if_icmp .ge 25, 3) := by decide +kernel
theorem dX0_edgesAt_9 : decode cX0_edgesAt 9 = .ok (.iload_n 1, 1) := by decide +kernel
theorem dX0_edgesAt_10 : decode cX0_edgesAt 10 = .ok (.aload_n 0, 1) := by decide +kernel
theorem dX0_edgesAt_11 : decode cX0_edgesAt 11 = .ok (.iload_n 3, 1) := by decide +kernel
theorem dX0_edgesAt_12 : decode cX0_edgesAt 12 = .ok (.invokevirtual 64, 3) := by decide +kernel
theorem dX0_edgesAt_15 : decode cX0_edgesAt 15 = .ok (.irem, 1) := by decide +kernel
theorem dX0_edgesAt_16 : decode cX0_edgesAt 16 = .ok (.ifCond .ne 9, 3) := by decide +kernel
theorem dX0_edgesAt_19 : decode cX0_edgesAt 19 = .ok (.iload_n 2, 1) := by decide +kernel
theorem dX0_edgesAt_20 : decode cX0_edgesAt 20 = .ok (.iconst 1, 1) := by decide +kernel
theorem dX0_edgesAt_21 : decode cX0_edgesAt 21 = .ok (.iload_n 3, 1) := by decide +kernel
theorem dX0_edgesAt_22 : decode cX0_edgesAt 22 = .ok (.ishl, 1) := by decide +kernel
theorem dX0_edgesAt_23 : decode cX0_edgesAt 23 = .ok (.ior, 1) := by decide +kernel
theorem dX0_edgesAt_24 : decode cX0_edgesAt 24 = .ok (.istore_n 2, 1) := by decide +kernel
theorem dX0_edgesAt_25 : decode cX0_edgesAt 25 = .ok (.iinc 3 1, 3) := by decide +kernel
theorem dX0_edgesAt_28 : decode cX0_edgesAt 28 = .ok (.goto (-24), 3) := by decide +kernel
theorem dX0_edgesAt_31 : decode cX0_edgesAt 31 = .ok (.iload_n 2, 1) := by decide +kernel
theorem dX0_edgesAt_32 : decode cX0_edgesAt 32 = .ok (.ireturn, 1) := by decide +kernel
theorem dX0_hasRoomFor_0 : decode cX0_hasRoomFor 0 = .ok (.iload_n 1, 1) := by decide +kernel
theorem dX0_hasRoomFor_1 : decode cX0_hasRoomFor 1 = .ok (.lookupswitch 52 #[(101, 37), (103, 37), (112, 35)], 35) := by decide +kernel
theorem dX0_hasRoomFor_36 : decode cX0_hasRoomFor 36 = .ok (.iconst 1, 1) := by decide +kernel
theorem dX0_hasRoomFor_37 : decode cX0_hasRoomFor 37 = .ok (.ireturn, 1) := by decide +kernel
theorem dX0_hasRoomFor_38 : decode cX0_hasRoomFor 38 = .ok (.aload_n 0, 1) := by decide +kernel
theorem dX0_hasRoomFor_39 : decode cX0_hasRoomFor 39 = .ok (.getfield 51, 3) := by decide +kernel
theorem dX0_hasRoomFor_42 : decode cX0_hasRoomFor 42 = .ok (.bipush 6, 2) := by decide +kernel
theorem dX0_hasRoomFor_44 : decode cX0_hasRoomFor 44 = .ok (.if_icmp .ge 7, 3) := by decide +kernel
theorem dX0_hasRoomFor_47 : decode cX0_hasRoomFor 47 = .ok (.iconst 1, 1) := by decide +kernel
theorem dX0_hasRoomFor_48 : decode cX0_hasRoomFor 48 = .ok (.goto 4, 3) := by decide +kernel
theorem dX0_hasRoomFor_51 : decode cX0_hasRoomFor 51 = .ok (.iconst 0, 1) := by decide +kernel
theorem dX0_hasRoomFor_52 : decode cX0_hasRoomFor 52 = .ok (.ireturn, 1) := by decide +kernel
theorem dX0_hasRoomFor_53 : decode cX0_hasRoomFor 53 = .ok (.aload_n 0, 1) := by decide +kernel
theorem dX0_hasRoomFor_54 : decode cX0_hasRoomFor 54 = .ok (.getfield 47, 3) := by decide +kernel
theorem dX0_hasRoomFor_57 : decode cX0_hasRoomFor 57 = .ok (.bipush 16, 2) := by decide +kernel
theorem dX0_hasRoomFor_59 : decode cX0_hasRoomFor 59 = .ok (.if_icmp .ge 7, 3) := by decide +kernel
theorem dX0_hasRoomFor_62 : decode cX0_hasRoomFor 62 = .ok (.iconst 1, 1) := by decide +kernel
theorem dX0_hasRoomFor_63 : decode cX0_hasRoomFor 63 = .ok (.goto 4, 3) := by decide +kernel
theorem dX0_hasRoomFor_66 : decode cX0_hasRoomFor 66 = .ok (.iconst 0, 1) := by decide +kernel
theorem dX0_hasRoomFor_67 : decode cX0_hasRoomFor 67 = .ok (.ireturn, 1) := by decide +kernel
theorem dX0_allows_0 : decode cX0_allows 0 = .ok (.iload_n 1, 1) := by decide +kernel
theorem dX0_allows_1 : decode cX0_allows 1 = .ok (.tableswitch 130 67 80 #[71, 130, 130, 130, 130, 130, 130, 130, 130, 105, 111, 99, 130, 82], 71) := by decide +kernel
theorem dX0_allows_72 : decode cX0_allows 72 = .ok (.iload_n 2, 1) := by decide +kernel
theorem dX0_allows_73 : decode cX0_allows 73 = .ok (.iconst 3, 1) := by decide +kernel
theorem dX0_allows_74 : decode cX0_allows 74 = .ok (.if_icmp .ge 7, 3) := by decide +kernel
theorem dX0_allows_77 : decode cX0_allows 77 = .ok (.iconst 1, 1) := by decide +kernel
theorem dX0_allows_78 : decode cX0_allows 78 = .ok (.goto 4, 3) := by decide +kernel
theorem dX0_allows_81 : decode cX0_allows 81 = .ok (.iconst 0, 1) := by decide +kernel
theorem dX0_allows_82 : decode cX0_allows 82 = .ok (.ireturn, 1) := by decide +kernel
theorem dX0_allows_83 : decode cX0_allows 83 = .ok (.iload_n 2, 1) := by decide +kernel
theorem dX0_allows_84 : decode cX0_allows 84 = .ok (.iconst 1, 1) := by decide +kernel
theorem dX0_allows_85 : decode cX0_allows 85 = .ok (.if_icmp .lt 13, 3) := by decide +kernel
theorem dX0_allows_88 : decode cX0_allows 88 = .ok (.iload_n 2, 1) := by decide +kernel
theorem dX0_allows_89 : decode cX0_allows 89 = .ok (.bipush 9, 2) := by decide +kernel
theorem dX0_allows_91 : decode cX0_allows 91 = .ok (.if_icmp .gt 7, 3) := by decide +kernel
theorem dX0_allows_94 : decode cX0_allows 94 = .ok (.iconst 1, 1) := by decide +kernel
theorem dX0_allows_95 : decode cX0_allows 95 = .ok (.goto 4, 3) := by decide +kernel
theorem dX0_allows_98 : decode cX0_allows 98 = .ok (.iconst 0, 1) := by decide +kernel
theorem dX0_allows_99 : decode cX0_allows 99 = .ok (.ireturn, 1) := by decide +kernel
theorem dX0_allows_100 : decode cX0_allows 100 = .ok (.aload_n 0, 1) := by decide +kernel
theorem dX0_allows_101 : decode cX0_allows 101 = .ok (.iload_n 2, 1) := by decide +kernel
theorem dX0_allows_102 : decode cX0_allows 102 = .ok (.invokevirtual 68, 3) := by decide +kernel
theorem dX0_allows_105 : decode cX0_allows 105 = .ok (.ireturn, 1) := by decide +kernel
theorem dX0_allows_106 : decode cX0_allows 106 = .ok (.aload_n 0, 1) := by decide +kernel
theorem dX0_allows_107 : decode cX0_allows 107 = .ok (.iload_n 2, 1) := by decide +kernel
theorem dX0_allows_108 : decode cX0_allows 108 = .ok (.invokevirtual 72, 3) := by decide +kernel
theorem dX0_allows_111 : decode cX0_allows 111 = .ok (.ireturn, 1) := by decide +kernel
theorem dX0_allows_112 : decode cX0_allows 112 = .ok (.aload_n 0, 1) := by decide +kernel
theorem dX0_allows_113 : decode cX0_allows 113 = .ok (.iload_n 2, 1) := by decide +kernel
theorem dX0_allows_114 : decode cX0_allows 114 = .ok (.invokevirtual 72, 3) := by decide +kernel
theorem dX0_allows_117 : decode cX0_allows 117 = .ok (.ifCond .eq 12, 3) := by decide +kernel
theorem dX0_allows_120 : decode cX0_allows 120 = .ok (.iload_n 2, 1) := by decide +kernel
theorem dX0_allows_121 : decode cX0_allows 121 = .ok (.iload_n 3, 1) := by decide +kernel
theorem dX0_allows_122 : decode cX0_allows 122 = .ok (.if_icmp .eq 7, 3) := by decide +kernel
theorem dX0_allows_125 : decode cX0_allows 125 = .ok (.iconst 1, 1) := by decide +kernel
theorem dX0_allows_126 : decode cX0_allows 126 = .ok (.goto 4, 3) := by decide +kernel
theorem dX0_allows_129 : decode cX0_allows 129 = .ok (.iconst 0, 1) := by decide +kernel
theorem dX0_allows_130 : decode cX0_allows 130 = .ok (.ireturn, 1) := by decide +kernel
theorem dX0_allows_131 : decode cX0_allows 131 = .ok (.iconst 0, 1) := by decide +kernel
theorem dX0_allows_132 : decode cX0_allows 132 = .ok (.ireturn, 1) := by decide +kernel
theorem dX0_add_0 : decode cX0_add 0 = .ok (.iload_n 1, 1) := by decide +kernel
theorem dX0_add_1 : decode cX0_add 1 = .ok (.tableswitch 205 97 120 #[140, 205, 205, 205, 205, 205, 205, 205, 111, 205, 205, 205, 182, 205, 154, 196, 205, 126, 205, 205, 205, 205, 205, 168], 111) := by decide +kernel
theorem dX0_add_112 : decode cX0_add 112 = .ok (.aload_n 0, 1) := by decide +kernel
theorem dX0_add_113 : decode cX0_add 113 = .ok (.iconst 0, 1) := by decide +kernel
theorem dX0_add_114 : decode cX0_add 114 = .ok (.iload_n 2, 1) := by decide +kernel
theorem dX0_add_115 : decode cX0_add 115 = .ok (.bipush (-9), 2) := by decide +kernel
theorem dX0_add_117 : decode cX0_add 117 = .ok (.bipush (-9), 2) := by decide +kernel
theorem dX0_add_119 : decode cX0_add 119 = .ok (.bipush (-9), 2) := by decide +kernel
theorem dX0_add_121 : decode cX0_add 121 = .ok (.invokevirtual 75, 3) := by decide +kernel
theorem dX0_add_124 : decode cX0_add 124 = .ok (.goto 88, 3) := by decide +kernel
theorem dX0_add_127 : decode cX0_add 127 = .ok (.aload_n 0, 1) := by decide +kernel
theorem dX0_add_128 : decode cX0_add 128 = .ok (.iconst 1, 1) := by decide +kernel
theorem dX0_add_129 : decode cX0_add 129 = .ok (.iload_n 2, 1) := by decide +kernel
theorem dX0_add_130 : decode cX0_add 130 = .ok (.iload_n 3, 1) := by decide +kernel
theorem dX0_add_131 : decode cX0_add 131 = .ok (.bipush (-9), 2) := by decide +kernel
theorem dX0_add_133 : decode cX0_add 133 = .ok (.bipush (-9), 2) := by decide +kernel
theorem dX0_add_135 : decode cX0_add 135 = .ok (.invokevirtual 75, 3) := by decide +kernel
theorem dX0_add_138 : decode cX0_add 138 = .ok (.goto 74, 3) := by decide +kernel
theorem dX0_add_141 : decode cX0_add 141 = .ok (.aload_n 0, 1) := by decide +kernel
theorem dX0_add_142 : decode cX0_add 142 = .ok (.iconst 2, 1) := by decide +kernel
theorem dX0_add_143 : decode cX0_add 143 = .ok (.bipush (-9), 2) := by decide +kernel
theorem dX0_add_145 : decode cX0_add 145 = .ok (.iload_n 2, 1) := by decide +kernel
theorem dX0_add_146 : decode cX0_add 146 = .ok (.iload_n 3, 1) := by decide +kernel
theorem dX0_add_147 : decode cX0_add 147 = .ok (.bipush (-9), 2) := by decide +kernel
theorem dX0_add_149 : decode cX0_add 149 = .ok (.invokevirtual 75, 3) := by decide +kernel
theorem dX0_add_152 : decode cX0_add 152 = .ok (.goto 60, 3) := by decide +kernel
theorem dX0_add_155 : decode cX0_add 155 = .ok (.aload_n 0, 1) := by decide +kernel
theorem dX0_add_156 : decode cX0_add 156 = .ok (.iconst 3, 1) := by decide +kernel
theorem dX0_add_157 : decode cX0_add 157 = .ok (.bipush (-9), 2) := by decide +kernel
theorem dX0_add_159 : decode cX0_add 159 = .ok (.iload_n 2, 1) := by decide +kernel
theorem dX0_add_160 : decode cX0_add 160 = .ok (.iload_n 3, 1) := by decide +kernel
theorem dX0_add_161 : decode cX0_add 161 = .ok (.bipush (-9), 2) := by decide +kernel
theorem dX0_add_163 : decode cX0_add 163 = .ok (.invokevirtual 75, 3) := by decide +kernel
theorem dX0_add_166 : decode cX0_add 166 = .ok (.goto 46, 3) := by decide +kernel
theorem dX0_add_169 : decode cX0_add 169 = .ok (.aload_n 0, 1) := by decide +kernel
theorem dX0_add_170 : decode cX0_add 170 = .ok (.iconst 4, 1) := by decide +kernel
theorem dX0_add_171 : decode cX0_add 171 = .ok (.bipush (-9), 2) := by decide +kernel
theorem dX0_add_173 : decode cX0_add 173 = .ok (.iload_n 2, 1) := by decide +kernel
theorem dX0_add_174 : decode cX0_add 174 = .ok (.iload_n 3, 1) := by decide +kernel
theorem dX0_add_175 : decode cX0_add 175 = .ok (.bipush (-9), 2) := by decide +kernel
theorem dX0_add_177 : decode cX0_add 177 = .ok (.invokevirtual 75, 3) := by decide +kernel
theorem dX0_add_180 : decode cX0_add 180 = .ok (.goto 32, 3) := by decide +kernel
theorem dX0_add_183 : decode cX0_add 183 = .ok (.aload_n 0, 1) := by decide +kernel
theorem dX0_add_184 : decode cX0_add 184 = .ok (.iconst 5, 1) := by decide +kernel
theorem dX0_add_185 : decode cX0_add 185 = .ok (.bipush (-9), 2) := by decide +kernel
theorem dX0_add_187 : decode cX0_add 187 = .ok (.iload_n 2, 1) := by decide +kernel
theorem dX0_add_188 : decode cX0_add 188 = .ok (.iload_n 3, 1) := by decide +kernel
theorem dX0_add_189 : decode cX0_add 189 = .ok (.iload 4, 2) := by decide +kernel
theorem dX0_add_191 : decode cX0_add 191 = .ok (.invokevirtual 75, 3) := by decide +kernel
theorem dX0_add_194 : decode cX0_add 194 = .ok (.goto 18, 3) := by decide +kernel
theorem dX0_add_197 : decode cX0_add 197 = .ok (.aload_n 0, 1) := by decide +kernel
theorem dX0_add_198 : decode cX0_add 198 = .ok (.iload_n 2, 1) := by decide +kernel
theorem dX0_add_199 : decode cX0_add 199 = .ok (.iload_n 3, 1) := by decide +kernel
theorem dX0_add_200 : decode cX0_add 200 = .ok (.invokevirtual 79, 3) := by decide +kernel
theorem dX0_add_203 : decode cX0_add 203 = .ok (.goto 9, 3) := by decide +kernel
theorem dX0_add_206 : decode cX0_add 206 = .ok (.aload_n 0, 1) := by decide +kernel
theorem dX0_add_207 : decode cX0_add 207 = .ok (.iload_n 2, 1) := by decide +kernel
theorem dX0_add_208 : decode cX0_add 208 = .ok (.iload_n 3, 1) := by decide +kernel
theorem dX0_add_209 : decode cX0_add 209 = .ok (.invokevirtual 83, 3) := by decide +kernel
theorem dX0_add_212 : decode cX0_add 212 = .ok (.return_, 1) := by decide +kernel
theorem dX0_addNode_0 : decode cX0_addNode 0 = .ok (.aload_n 0, 1) := by decide +kernel
theorem dX0_addNode_1 : decode cX0_addNode 1 = .ok (.getfield 47, 3) := by decide +kernel
theorem dX0_addNode_4 : decode cX0_addNode 4 = .ok (.bipush 16, 2) := by decide +kernel
theorem dX0_addNode_6 : decode cX0_addNode 6 = .ok (.if_icmp .lt 4, 3) := by decide +kernel
theorem dX0_addNode_9 : decode cX0_addNode 9 = .ok (.return_, 1) := by decide +kernel
theorem dX0_addNode_10 : decode cX0_addNode 10 = .ok (.aload_n 0, 1) := by decide +kernel
theorem dX0_addNode_11 : decode cX0_addNode 11 = .ok (.getfield 47, 3) := by decide +kernel
theorem dX0_addNode_14 : decode cX0_addNode 14 = .ok (.istore 6, 2) := by decide +kernel
theorem dX0_addNode_16 : decode cX0_addNode 16 = .ok (.aload_n 0, 1) := by decide +kernel
theorem dX0_addNode_17 : decode cX0_addNode 17 = .ok (.getfield 9, 3) := by decide +kernel
theorem dX0_addNode_20 : decode cX0_addNode 20 = .ok (.iload 6, 2) := by decide +kernel
theorem dX0_addNode_22 : decode cX0_addNode 22 = .ok (.iload_n 1, 1) := by decide +kernel
theorem dX0_addNode_23 : decode cX0_addNode 23 = .ok (.iastore, 1) := by decide +kernel
theorem dX0_addNode_24 : decode cX0_addNode 24 = .ok (.aload_n 0, 1) := by decide +kernel
theorem dX0_addNode_25 : decode cX0_addNode 25 = .ok (.getfield 15, 3) := by decide +kernel
theorem dX0_addNode_28 : decode cX0_addNode 28 = .ok (.iload 6, 2) := by decide +kernel
theorem dX0_addNode_30 : decode cX0_addNode 30 = .ok (.iload_n 2, 1) := by decide +kernel
theorem dX0_addNode_31 : decode cX0_addNode 31 = .ok (.iastore, 1) := by decide +kernel
theorem dX0_addNode_32 : decode cX0_addNode 32 = .ok (.aload_n 0, 1) := by decide +kernel
theorem dX0_addNode_33 : decode cX0_addNode 33 = .ok (.getfield 33, 3) := by decide +kernel
theorem dX0_addNode_36 : decode cX0_addNode 36 = .ok (.iload 6, 2) := by decide +kernel
theorem dX0_addNode_38 : decode cX0_addNode 38 = .ok (.iconst 0, 1) := by decide +kernel
theorem dX0_addNode_39 : decode cX0_addNode 39 = .ok (.iastore, 1) := by decide +kernel
theorem dX0_addNode_40 : decode cX0_addNode 40 = .ok (.aload_n 0, 1) := by decide +kernel
theorem dX0_addNode_41 : decode cX0_addNode 41 = .ok (.getfield 21, 3) := by decide +kernel
theorem dX0_addNode_44 : decode cX0_addNode 44 = .ok (.iload 6, 2) := by decide +kernel
theorem dX0_addNode_46 : decode cX0_addNode 46 = .ok (.iconst 0, 1) := by decide +kernel
theorem dX0_addNode_47 : decode cX0_addNode 47 = .ok (.iastore, 1) := by decide +kernel
theorem dX0_addNode_48 : decode cX0_addNode 48 = .ok (.aload_n 0, 1) := by decide +kernel
theorem dX0_addNode_49 : decode cX0_addNode 49 = .ok (.getfield 24, 3) := by decide +kernel
theorem dX0_addNode_52 : decode cX0_addNode 52 = .ok (.iload 6, 2) := by decide +kernel
theorem dX0_addNode_54 : decode cX0_addNode 54 = .ok (.iload_n 1, 1) := by decide +kernel
theorem dX0_addNode_55 : decode cX0_addNode 55 = .ok (.ifCond .eq 8, 3) := by decide +kernel
theorem dX0_addNode_58 : decode cX0_addNode 58 = .ok (.iload_n 1, 1) := by decide +kernel
theorem dX0_addNode_59 : decode cX0_addNode 59 = .ok (.iconst 1, 1) := by decide +kernel
theorem dX0_addNode_60 : decode cX0_addNode 60 = .ok (.if_icmp .ne 10, 3) := by decide +kernel
theorem dX0_addNode_63 : decode cX0_addNode 63 = .ok (.iconst 1, 1) := by decide +kernel
theorem dX0_addNode_64 : decode cX0_addNode 64 = .ok (.iload 6, 2) := by decide +kernel
theorem dX0_addNode_66 : decode cX0_addNode 66 = .ok (.ishl, 1) := by decide +kernel
theorem dX0_addNode_67 : decode cX0_addNode 67 = .ok (.goto 4, 3) := by decide +kernel
theorem dX0_addNode_70 : decode cX0_addNode 70 = .ok (.iconst 0, 1) := by decide +kernel
theorem dX0_addNode_71 : decode cX0_addNode 71 = .ok (.iastore, 1) := by decide +kernel
theorem dX0_addNode_72 : decode cX0_addNode 72 = .ok (.aload_n 0, 1) := by decide +kernel
theorem dX0_addNode_73 : decode cX0_addNode 73 = .ok (.iload 6, 2) := by decide +kernel
theorem dX0_addNode_75 : decode cX0_addNode 75 = .ok (.iconst 0, 1) := by decide +kernel
theorem dX0_addNode_76 : decode cX0_addNode 76 = .ok (.iload_n 3, 1) := by decide +kernel
theorem dX0_addNode_77 : decode cX0_addNode 77 = .ok (.invokevirtual 86, 3) := by decide +kernel
theorem dX0_addNode_80 : decode cX0_addNode 80 = .ok (.aload_n 0, 1) := by decide +kernel
theorem dX0_addNode_81 : decode cX0_addNode 81 = .ok (.iload 6, 2) := by decide +kernel
theorem dX0_addNode_83 : decode cX0_addNode 83 = .ok (.iconst 1, 1) := by decide +kernel
theorem dX0_addNode_84 : decode cX0_addNode 84 = .ok (.iload 4, 2) := by decide +kernel
theorem dX0_addNode_86 : decode cX0_addNode 86 = .ok (.invokevirtual 86, 3) := by decide +kernel
theorem dX0_addNode_89 : decode cX0_addNode 89 = .ok (.aload_n 0, 1) := by decide +kernel
theorem dX0_addNode_90 : decode cX0_addNode 90 = .ok (.iload 6, 2) := by decide +kernel
theorem dX0_addNode_92 : decode cX0_addNode 92 = .ok (.iconst 2, 1) := by decide +kernel
theorem dX0_addNode_93 : decode cX0_addNode 93 = .ok (.iload 5, 2) := by decide +kernel
theorem dX0_addNode_95 : decode cX0_addNode 95 = .ok (.invokevirtual 86, 3) := by decide +kernel
theorem dX0_addNode_98 : decode cX0_addNode 98 = .ok (.aload_n 0, 1) := by decide +kernel
theorem dX0_addNode_99 : decode cX0_addNode 99 = .ok (.getfield 27, 3) := by decide +kernel
theorem dX0_addNode_102 : decode cX0_addNode 102 = .ok (.iload 6, 2) := by decide +kernel
theorem dX0_addNode_104 : decode cX0_addNode 104 = .ok (.iload_n 1, 1) := by decide +kernel
theorem dX0_addNode_105 : decode cX0_addNode 105 = .ok (.iconst 1, 1) := by decide +kernel
theorem dX0_addNode_106 : decode cX0_addNode 106 = .ok (.if_icmp .ne 19, 3) := by decide +kernel
theorem dX0_addNode_109 : decode cX0_addNode 109 = .ok (.aload_n 0, 1) := by decide +kernel
theorem dX0_addNode_110 : decode cX0_addNode 110 = .ok (.aload_n 0, 1) := by decide +kernel
theorem dX0_addNode_111 : decode cX0_addNode 111 = .ok (.getfield 24, 3) := by decide +kernel
theorem dX0_addNode_114 : decode cX0_addNode 114 = .ok (.iload_n 3, 1) := by decide +kernel
theorem dX0_addNode_115 : decode cX0_addNode 115 = .ok (.invokestatic 60, 3) := by decide +kernel
theorem dX0_addNode_118 : decode cX0_addNode 118 = .ok (.iload_n 2, 1) := by decide +kernel
theorem dX0_addNode_119 : decode cX0_addNode 119 = .ok (.invokevirtual 90, 3) := by decide +kernel
theorem dX0_addNode_122 : decode cX0_addNode 122 = .ok (.goto 4, 3) := by decide +kernel
theorem dX0_addNode_125 : decode cX0_addNode 125 = .ok (.iconst 0, 1) := by decide +kernel
theorem dX0_addNode_126 : decode cX0_addNode 126 = .ok (.iastore, 1) := by decide +kernel
theorem dX0_addNode_127 : decode cX0_addNode 127 = .ok (.aload_n 0, 1) := by decide +kernel
theorem dX0_addNode_128 : decode cX0_addNode 128 = .ok (.dup, 1) := by decide +kernel
theorem dX0_addNode_129 : decode cX0_addNode 129 = .ok (.getfield 47, 3) := by decide +kernel
theorem dX0_addNode_132 : decode cX0_addNode 132 = .ok (.iconst 1, 1) := by decide +kernel
theorem dX0_addNode_133 : decode cX0_addNode 133 = .ok (.iadd, 1) := by decide +kernel
theorem dX0_addNode_134 : decode cX0_addNode 134 = .ok (.putfield 47, 3) := by decide +kernel
theorem dX0_addNode_137 : decode cX0_addNode 137 = .ok (.return_, 1) := by decide +kernel
theorem dX0_addPart_0 : decode cX0_addPart 0 = .ok (.aload_n 0, 1) := by decide +kernel
theorem dX0_addPart_1 : decode cX0_addPart 1 = .ok (.getfield 18, 3) := by decide +kernel
theorem dX0_addPart_4 : decode cX0_addPart 4 = .ok (.iload_n 1, 1) := by decide +kernel
theorem dX0_addPart_5 : decode cX0_addPart 5 = .ok (.iconst 3, 1) := by decide +kernel
theorem dX0_addPart_6 : decode cX0_addPart 6 = .ok (.imul, 1) := by decide +kernel
theorem dX0_addPart_7 : decode cX0_addPart 7 = .ok (.iload_n 2, 1) := by decide +kernel
theorem dX0_addPart_8 : decode cX0_addPart 8 = .ok (.iadd, 1) := by decide +kernel
theorem dX0_addPart_9 : decode cX0_addPart 9 = .ok (.iload_n 3, 1) := by decide +kernel
theorem dX0_addPart_10 : decode cX0_addPart 10 = .ok (.iastore, 1) := by decide +kernel
theorem dX0_addPart_11 : decode cX0_addPart 11 = .ok (.aload_n 0, 1) := by decide +kernel
theorem dX0_addPart_12 : decode cX0_addPart 12 = .ok (.iload_n 3, 1) := by decide +kernel
theorem dX0_addPart_13 : decode cX0_addPart 13 = .ok (.invokevirtual 68, 3) := by decide +kernel
theorem dX0_addPart_16 : decode cX0_addPart 16 = .ok (.ifCond .eq 40, 3) := by decide +kernel
theorem dX0_addPart_19 : decode cX0_addPart 19 = .ok (.aload_n 0, 1) := by decide +kernel
theorem dX0_addPart_20 : decode cX0_addPart 20 = .ok (.getfield 21, 3) := by decide +kernel
theorem dX0_addPart_23 : decode cX0_addPart 23 = .ok (.iload_n 1, 1) := by decide +kernel
theorem dX0_addPart_24 : decode cX0_addPart 24 = .ok (.dup2, 1) := by decide +kernel
theorem dX0_addPart_25 : decode cX0_addPart 25 = .ok (.iaload, 1) := by decide +kernel
theorem dX0_addPart_26 : decode cX0_addPart 26 = .ok (.iconst 1, 1) := by decide +kernel
theorem dX0_addPart_27 : decode cX0_addPart 27 = .ok (.iload_n 3, 1) := by decide +kernel
theorem dX0_addPart_28 : decode cX0_addPart 28 = .ok (.ishl, 1) := by decide +kernel
theorem dX0_addPart_29 : decode cX0_addPart 29 = .ok (.ior, 1) := by decide +kernel
theorem dX0_addPart_30 : decode cX0_addPart 30 = .ok (.iastore, 1) := by decide +kernel
theorem dX0_addPart_31 : decode cX0_addPart 31 = .ok (.aload_n 0, 1) := by decide +kernel
theorem dX0_addPart_32 : decode cX0_addPart 32 = .ok (.getfield 9, 3) := by decide +kernel
theorem dX0_addPart_35 : decode cX0_addPart 35 = .ok (.iload_n 1, 1) := by decide +kernel
theorem dX0_addPart_36 : decode cX0_addPart 36 = .ok (.iaload, 1) := by decide +kernel
theorem dX0_addPart_37 : decode cX0_addPart 37 = .ok (.iconst 1, 1) := by decide +kernel
theorem dX0_addPart_38 : decode cX0_addPart 38 = .ok (.if_icmp .eq 18, 3) := by decide +kernel
theorem dX0_addPart_41 : decode cX0_addPart 41 = .ok (.aload_n 0, 1) := by decide +kernel
theorem dX0_addPart_42 : decode cX0_addPart 42 = .ok (.getfield 24, 3) := by decide +kernel
theorem dX0_addPart_45 : decode cX0_addPart 45 = .ok (.iload_n 1, 1) := by decide +kernel
theorem dX0_addPart_46 : decode cX0_addPart 46 = .ok (.dup2, 1) := by decide +kernel
theorem dX0_addPart_47 : decode cX0_addPart 47 = .ok (.iaload, 1) := by decide +kernel
theorem dX0_addPart_48 : decode cX0_addPart 48 = .ok (.aload_n 0, 1) := by decide +kernel
theorem dX0_addPart_49 : decode cX0_addPart 49 = .ok (.getfield 24, 3) := by decide +kernel
theorem dX0_addPart_52 : decode cX0_addPart 52 = .ok (.iload_n 3, 1) := by decide +kernel
theorem dX0_addPart_53 : decode cX0_addPart 53 = .ok (.iaload, 1) := by decide +kernel
theorem dX0_addPart_54 : decode cX0_addPart 54 = .ok (.ior, 1) := by decide +kernel
theorem dX0_addPart_55 : decode cX0_addPart 55 = .ok (.iastore, 1) := by decide +kernel
theorem dX0_addPart_56 : decode cX0_addPart 56 = .ok (.return_, 1) := by decide +kernel
theorem dX0_setPeriod_0 : decode cX0_setPeriod 0 = .ok (.iload_n 1, 1) := by decide +kernel
theorem dX0_setPeriod_1 : decode cX0_setPeriod 1 = .ok (.ifCond .lt 15, 3) := by decide +kernel
theorem dX0_setPeriod_4 : decode cX0_setPeriod 4 = .ok (.iload_n 1, 1) := by decide +kernel
theorem dX0_setPeriod_5 : decode cX0_setPeriod 5 = .ok (.iconst 3, 1) := by decide +kernel
theorem dX0_setPeriod_6 : decode cX0_setPeriod 6 = .ok (.if_icmp .ge 10, 3) := by decide +kernel
theorem dX0_setPeriod_9 : decode cX0_setPeriod 9 = .ok (.aload_n 0, 1) := by decide +kernel
theorem dX0_setPeriod_10 : decode cX0_setPeriod 10 = .ok (.getfield 44, 3) := by decide +kernel
theorem dX0_setPeriod_13 : decode cX0_setPeriod 13 = .ok (.iload_n 1, 1) := by decide +kernel
theorem dX0_setPeriod_14 : decode cX0_setPeriod 14 = .ok (.iload_n 2, 1) := by decide +kernel
theorem dX0_setPeriod_15 : decode cX0_setPeriod 15 = .ok (.iastore, 1) := by decide +kernel
theorem dX0_setPeriod_16 : decode cX0_setPeriod 16 = .ok (.return_, 1) := by decide +kernel
theorem dX0_addMark_0 : decode cX0_addMark 0 = .ok (.aload_n 0, 1) := by decide +kernel
theorem dX0_addMark_1 : decode cX0_addMark 1 = .ok (.iload_n 1, 1) := by decide +kernel
theorem dX0_addMark_2 : decode cX0_addMark 2 = .ok (.invokevirtual 68, 3) := by decide +kernel
theorem dX0_addMark_5 : decode cX0_addMark 5 = .ok (.ifCond .eq 45, 3) := by decide +kernel
theorem dX0_addMark_8 : decode cX0_addMark 8 = .ok (.aload_n 0, 1) := by decide +kernel
theorem dX0_addMark_9 : decode cX0_addMark 9 = .ok (.iload_n 2, 1) := by decide +kernel
theorem dX0_addMark_10 : decode cX0_addMark 10 = .ok (.invokevirtual 68, 3) := by decide +kernel
theorem dX0_addMark_13 : decode cX0_addMark 13 = .ok (.ifCond .eq 37, 3) := by decide +kernel
theorem dX0_addMark_16 : decode cX0_addMark 16 = .ok (.aload_n 0, 1) := by decide +kernel
theorem dX0_addMark_17 : decode cX0_addMark 17 = .ok (.getfield 33, 3) := by decide +kernel
theorem dX0_addMark_20 : decode cX0_addMark 20 = .ok (.iload_n 1, 1) := by decide +kernel
theorem dX0_addMark_21 : decode cX0_addMark 21 = .ok (.dup2, 1) := by decide +kernel
theorem dX0_addMark_22 : decode cX0_addMark 22 = .ok (.iaload, 1) := by decide +kernel
theorem dX0_addMark_23 : decode cX0_addMark 23 = .ok (.iconst 1, 1) := by decide +kernel
theorem dX0_addMark_24 : decode cX0_addMark 24 = .ok (.iload_n 2, 1) := by decide +kernel
theorem dX0_addMark_25 : decode cX0_addMark 25 = .ok (.ishl, 1) := by decide +kernel
theorem dX0_addMark_26 : decode cX0_addMark 26 = .ok (.ior, 1) := by decide +kernel
theorem dX0_addMark_27 : decode cX0_addMark 27 = .ok (.iastore, 1) := by decide +kernel
theorem dX0_addMark_28 : decode cX0_addMark 28 = .ok (.aload_n 0, 1) := by decide +kernel
theorem dX0_addMark_29 : decode cX0_addMark 29 = .ok (.getfield 33, 3) := by decide +kernel
theorem dX0_addMark_32 : decode cX0_addMark 32 = .ok (.iload_n 2, 1) := by decide +kernel
theorem dX0_addMark_33 : decode cX0_addMark 33 = .ok (.dup2, 1) := by decide +kernel
theorem dX0_addMark_34 : decode cX0_addMark 34 = .ok (.iaload, 1) := by decide +kernel
theorem dX0_addMark_35 : decode cX0_addMark 35 = .ok (.iconst 1, 1) := by decide +kernel
theorem dX0_addMark_36 : decode cX0_addMark 36 = .ok (.iload_n 1, 1) := by decide +kernel
theorem dX0_addMark_37 : decode cX0_addMark 37 = .ok (.ishl, 1) := by decide +kernel
theorem dX0_addMark_38 : decode cX0_addMark 38 = .ok (.ior, 1) := by decide +kernel
theorem dX0_addMark_39 : decode cX0_addMark 39 = .ok (.iastore, 1) := by decide +kernel
theorem dX0_addMark_40 : decode cX0_addMark 40 = .ok (.aload_n 0, 1) := by decide +kernel
theorem dX0_addMark_41 : decode cX0_addMark 41 = .ok (.dup, 1) := by decide +kernel
theorem dX0_addMark_42 : decode cX0_addMark 42 = .ok (.getfield 51, 3) := by decide +kernel
theorem dX0_addMark_45 : decode cX0_addMark 45 = .ok (.iconst 1, 1) := by decide +kernel
theorem dX0_addMark_46 : decode cX0_addMark 46 = .ok (.iadd, 1) := by decide +kernel
theorem dX0_addMark_47 : decode cX0_addMark 47 = .ok (.putfield 51, 3) := by decide +kernel
theorem dX0_addMark_50 : decode cX0_addMark 50 = .ok (.return_, 1) := by decide +kernel
theorem dX0_measureDepths_0 : decode cX0_measureDepths 0 = .ok (.aload_n 0, 1) := by decide +kernel
theorem dX0_measureDepths_1 : decode cX0_measureDepths 1 = .ok (.getfield 47, 3) := by decide +kernel
theorem dX0_measureDepths_4 : decode cX0_measureDepths 4 = .ok (.iconst 1, 1) := by decide +kernel
theorem dX0_measureDepths_5 : decode cX0_measureDepths 5 = .ok (.isub, 1) := by decide +kernel
theorem dX0_measureDepths_6 : decode cX0_measureDepths 6 = .ok (.istore_n 1, 1) := by decide +kernel
theorem dX0_measureDepths_7 : decode cX0_measureDepths 7 = .ok (.iload_n 1, 1) := by decide +kernel
theorem dX0_measureDepths_8 : decode cX0_measureDepths 8 = .ok (.ifCond .lt 76, 3) := by decide +kernel
theorem dX0_measureDepths_11 : decode cX0_measureDepths 11 = .ok (.aload_n 0, 1) := by decide +kernel
theorem dX0_measureDepths_12 : decode cX0_measureDepths 12 = .ok (.iload_n 1, 1) := by decide +kernel
theorem dX0_measureDepths_13 : decode cX0_measureDepths 13 = .ok (.invokevirtual 94, 3) := by decide +kernel
theorem dX0_measureDepths_16 : decode cX0_measureDepths 16 = .ok (.istore_n 2, 1) := by decide +kernel
theorem dX0_measureDepths_17 : decode cX0_measureDepths 17 = .ok (.aload_n 0, 1) := by decide +kernel
theorem dX0_measureDepths_18 : decode cX0_measureDepths 18 = .ok (.iload_n 1, 1) := by decide +kernel
theorem dX0_measureDepths_19 : decode cX0_measureDepths 19 = .ok (.iconst 1, 1) := by decide +kernel
theorem dX0_measureDepths_20 : decode cX0_measureDepths 20 = .ok (.invokevirtual 97, 3) := by decide +kernel
theorem dX0_measureDepths_23 : decode cX0_measureDepths 23 = .ok (.ifCond .eq 31, 3) := by decide +kernel
theorem dX0_measureDepths_26 : decode cX0_measureDepths 26 = .ok (.aload_n 0, 1) := by decide +kernel
theorem dX0_measureDepths_27 : decode cX0_measureDepths 27 = .ok (.iload_n 2, 1) := by decide +kernel
theorem dX0_measureDepths_28 : decode cX0_measureDepths 28 = .ok (.iconst 1, 1) := by decide +kernel
theorem dX0_measureDepths_29 : decode cX0_measureDepths 29 = .ok (.invokevirtual 97, 3) := by decide +kernel
theorem dX0_measureDepths_32 : decode cX0_measureDepths 32 = .ok (.ifCond .eq 22, 3) := by decide +kernel
theorem dX0_measureDepths_35 : decode cX0_measureDepths 35 = .ok (.aload_n 0, 1) := by decide +kernel
theorem dX0_measureDepths_36 : decode cX0_measureDepths 36 = .ok (.getfield 15, 3) := by decide +kernel
theorem dX0_measureDepths_39 : decode cX0_measureDepths 39 = .ok (.iload_n 2, 1) := by decide +kernel
theorem dX0_measureDepths_40 : decode cX0_measureDepths 40 = .ok (.iaload, 1) := by decide +kernel
theorem dX0_measureDepths_41 : decode cX0_measureDepths 41 = .ok (.aload_n 0, 1) := by decide +kernel
theorem dX0_measureDepths_42 : decode cX0_measureDepths 42 = .ok (.getfield 15, 3) := by decide +kernel
theorem dX0_measureDepths_45 : decode cX0_measureDepths 45 = .ok (.iload_n 1, 1) := by decide +kernel
theorem dX0_measureDepths_46 : decode cX0_measureDepths 46 = .ok (.iaload, 1) := by decide +kernel
theorem dX0_measureDepths_47 : decode cX0_measureDepths 47 = .ok (.if_icmp .ne 7, 3) := by decide +kernel
theorem dX0_measureDepths_50 : decode cX0_measureDepths 50 = .ok (.iconst 1, 1) := by decide +kernel
theorem dX0_measureDepths_51 : decode cX0_measureDepths 51 = .ok (.goto 4, 3) := by decide +kernel
theorem dX0_measureDepths_54 : decode cX0_measureDepths 54 = .ok (.iconst 0, 1) := by decide +kernel
theorem dX0_measureDepths_55 : decode cX0_measureDepths 55 = .ok (.istore_n 3, 1) := by decide +kernel
theorem dX0_measureDepths_56 : decode cX0_measureDepths 56 = .ok (.aload_n 0, 1) := by decide +kernel
theorem dX0_measureDepths_57 : decode cX0_measureDepths 57 = .ok (.getfield 30, 3) := by decide +kernel
theorem dX0_measureDepths_60 : decode cX0_measureDepths 60 = .ok (.iload_n 1, 1) := by decide +kernel
theorem dX0_measureDepths_61 : decode cX0_measureDepths 61 = .ok (.iload_n 3, 1) := by decide +kernel
theorem dX0_measureDepths_62 : decode cX0_measureDepths 62 = .ok (.ifCond .eq 14, 3) := by decide +kernel
theorem dX0_measureDepths_65 : decode cX0_measureDepths 65 = .ok (.aload_n 0, 1) := by decide +kernel
theorem dX0_measureDepths_66 : decode cX0_measureDepths 66 = .ok (.getfield 30, 3) := by decide +kernel
theorem dX0_measureDepths_69 : decode cX0_measureDepths 69 = .ok (.iload_n 2, 1) := by decide +kernel
theorem dX0_measureDepths_70 : decode cX0_measureDepths 70 = .ok (.iaload, 1) := by decide +kernel
theorem dX0_measureDepths_71 : decode cX0_measureDepths 71 = .ok (.iconst 1, 1) := by decide +kernel
theorem dX0_measureDepths_72 : decode cX0_measureDepths 72 = .ok (.iadd, 1) := by decide +kernel
theorem dX0_measureDepths_73 : decode cX0_measureDepths 73 = .ok (.goto 4, 3) := by decide +kernel
theorem dX0_measureDepths_76 : decode cX0_measureDepths 76 = .ok (.iconst 1, 1) := by decide +kernel
theorem dX0_measureDepths_77 : decode cX0_measureDepths 77 = .ok (.iastore, 1) := by decide +kernel
theorem dX0_measureDepths_78 : decode cX0_measureDepths 78 = .ok (.iinc 1 (-1), 3) := by decide +kernel
theorem dX0_measureDepths_81 : decode cX0_measureDepths 81 = .ok (.goto (-74), 3) := by decide +kernel
theorem dX0_measureDepths_84 : decode cX0_measureDepths 84 = .ok (.return_, 1) := by decide +kernel
theorem dX0_onlyHaver_0 : decode cX0_onlyHaver 0 = .ok (.bipush (-9), 2) := by decide +kernel
theorem dX0_onlyHaver_2 : decode cX0_onlyHaver 2 = .ok (.istore_n 2, 1) := by decide +kernel
theorem dX0_onlyHaver_3 : decode cX0_onlyHaver 3 = .ok (.iload_n 1, 1) := by decide +kernel
theorem dX0_onlyHaver_4 : decode cX0_onlyHaver 4 = .ok (.iconst 1, 1) := by decide +kernel
theorem dX0_onlyHaver_5 : decode cX0_onlyHaver 5 = .ok (.iadd, 1) := by decide +kernel
theorem dX0_onlyHaver_6 : decode cX0_onlyHaver 6 = .ok (.istore_n 3, 1) := by decide +kernel
theorem dX0_onlyHaver_7 : decode cX0_onlyHaver 7 = .ok (.iload_n 3, 1) := by decide +kernel
theorem dX0_onlyHaver_8 : decode cX0_onlyHaver 8 = .ok (.aload_n 0, 1) := by decide +kernel
theorem dX0_onlyHaver_9 : decode cX0_onlyHaver 9 = .ok (.getfield 47, 3) := by decide +kernel
theorem dX0_onlyHaver_12 : decode cX0_onlyHaver 12 = .ok (.if_icmp .ge 33, 3) := by decide +kernel
theorem dX0_onlyHaver_15 : decode cX0_onlyHaver 15 = .ok (.aload_n 0, 1) := by decide +kernel
theorem dX0_onlyHaver_16 : decode cX0_onlyHaver 16 = .ok (.getfield 21, 3) := by decide +kernel
theorem dX0_onlyHaver_19 : decode cX0_onlyHaver 19 = .ok (.iload_n 3, 1) := by decide +kernel
theorem dX0_onlyHaver_20 : decode cX0_onlyHaver 20 = .ok (.iaload, 1) := by decide +kernel
theorem dX0_onlyHaver_21 : decode cX0_onlyHaver 21 = .ok (.iload_n 1, 1) := by decide +kernel
theorem dX0_onlyHaver_22 : decode cX0_onlyHaver 22 = .ok (.invokestatic 101, 3) := by decide +kernel
theorem dX0_onlyHaver_25 : decode cX0_onlyHaver 25 = .ok (.ifCond .eq 14, 3) := by decide +kernel
theorem dX0_onlyHaver_28 : decode cX0_onlyHaver 28 = .ok (.iload_n 2, 1) := by decide +kernel
theorem dX0_onlyHaver_29 : decode cX0_onlyHaver 29 = .ok (.bipush (-9), 2) := by decide +kernel
theorem dX0_onlyHaver_31 : decode cX0_onlyHaver 31 = .ok (.if_icmp .eq 6, 3) := by decide +kernel
theorem dX0_onlyHaver_34 : decode cX0_onlyHaver 34 = .ok (.bipush (-9), 2) := by decide +kernel
theorem dX0_onlyHaver_36 : decode cX0_onlyHaver 36 = .ok (.ireturn, 1) := by decide +kernel
theorem dX0_onlyHaver_37 : decode cX0_onlyHaver 37 = .ok (.iload_n 3, 1) := by decide +kernel
theorem dX0_onlyHaver_38 : decode cX0_onlyHaver 38 = .ok (.istore_n 2, 1) := by decide +kernel
theorem dX0_onlyHaver_39 : decode cX0_onlyHaver 39 = .ok (.iinc 3 1, 3) := by decide +kernel
theorem dX0_onlyHaver_42 : decode cX0_onlyHaver 42 = .ok (.goto (-35), 3) := by decide +kernel
theorem dX0_onlyHaver_45 : decode cX0_onlyHaver 45 = .ok (.iload_n 2, 1) := by decide +kernel
theorem dX0_onlyHaver_46 : decode cX0_onlyHaver 46 = .ok (.ireturn, 1) := by decide +kernel
theorem dX0_clocksOf_0 : decode cX0_clocksOf 0 = .ok (.iconst 0, 1) := by decide +kernel
theorem dX0_clocksOf_1 : decode cX0_clocksOf 1 = .ok (.istore_n 2, 1) := by decide +kernel
theorem dX0_clocksOf_2 : decode cX0_clocksOf 2 = .ok (.iconst 0, 1) := by decide +kernel
theorem dX0_clocksOf_3 : decode cX0_clocksOf 3 = .ok (.istore_n 3, 1) := by decide +kernel
theorem dX0_clocksOf_4 : decode cX0_clocksOf 4 = .ok (.iload_n 3, 1) := by decide +kernel
theorem dX0_clocksOf_5 : decode cX0_clocksOf 5 = .ok (.aload_n 0, 1) := by decide +kernel
theorem dX0_clocksOf_6 : decode cX0_clocksOf 6 = .ok (.getfield 47, 3) := by decide +kernel
theorem dX0_clocksOf_9 : decode cX0_clocksOf 9 = .ok (.if_icmp .ge 36, 3) := by decide +kernel
theorem dX0_clocksOf_12 : decode cX0_clocksOf 12 = .ok (.iload_n 1, 1) := by decide +kernel
theorem dX0_clocksOf_13 : decode cX0_clocksOf 13 = .ok (.iload_n 3, 1) := by decide +kernel
theorem dX0_clocksOf_14 : decode cX0_clocksOf 14 = .ok (.invokestatic 101, 3) := by decide +kernel
theorem dX0_clocksOf_17 : decode cX0_clocksOf 17 = .ok (.ifCond .eq 22, 3) := by decide +kernel
theorem dX0_clocksOf_20 : decode cX0_clocksOf 20 = .ok (.aload_n 0, 1) := by decide +kernel
theorem dX0_clocksOf_21 : decode cX0_clocksOf 21 = .ok (.iload_n 3, 1) := by decide +kernel
theorem dX0_clocksOf_22 : decode cX0_clocksOf 22 = .ok (.invokevirtual 72, 3) := by decide +kernel
theorem dX0_clocksOf_25 : decode cX0_clocksOf 25 = .ok (.ifCond .eq 14, 3) := by decide +kernel
theorem dX0_clocksOf_28 : decode cX0_clocksOf 28 = .ok (.iload_n 2, 1) := by decide +kernel
theorem dX0_clocksOf_29 : decode cX0_clocksOf 29 = .ok (.iconst 1, 1) := by decide +kernel
theorem dX0_clocksOf_30 : decode cX0_clocksOf 30 = .ok (.aload_n 0, 1) := by decide +kernel
theorem dX0_clocksOf_31 : decode cX0_clocksOf 31 = .ok (.getfield 15, 3) := by decide +kernel
theorem dX0_clocksOf_34 : decode cX0_clocksOf 34 = .ok (.iload_n 3, 1) := by decide +kernel
theorem dX0_clocksOf_35 : decode cX0_clocksOf 35 = .ok (.iaload, 1) := by decide +kernel
theorem dX0_clocksOf_36 : decode cX0_clocksOf 36 = .ok (.ishl, 1) := by decide +kernel
theorem dX0_clocksOf_37 : decode cX0_clocksOf 37 = .ok (.ior, 1) := by decide +kernel
theorem dX0_clocksOf_38 : decode cX0_clocksOf 38 = .ok (.istore_n 2, 1) := by decide +kernel
theorem dX0_clocksOf_39 : decode cX0_clocksOf 39 = .ok (.iinc 3 1, 3) := by decide +kernel
theorem dX0_clocksOf_42 : decode cX0_clocksOf 42 = .ok (.goto (-38), 3) := by decide +kernel
theorem dX0_clocksOf_45 : decode cX0_clocksOf 45 = .ok (.iload_n 2, 1) := by decide +kernel
theorem dX0_clocksOf_46 : decode cX0_clocksOf 46 = .ok (.ireturn, 1) := by decide +kernel
theorem dX0_unlikeClock_0 : decode cX0_unlikeClock 0 = .ok (.iload_n 1, 1) := by decide +kernel
theorem dX0_unlikeClock_1 : decode cX0_unlikeClock 1 = .ok (.istore_n 3, 1) := by decide +kernel
theorem dX0_unlikeClock_2 : decode cX0_unlikeClock 2 = .ok (.iconst 0, 1) := by decide +kernel
theorem dX0_unlikeClock_3 : decode cX0_unlikeClock 3 = .ok (.istore 4, 2) := by decide +kernel
theorem dX0_unlikeClock_5 : decode cX0_unlikeClock 5 = .ok (.iload 4, 2) := by decide +kernel
theorem dX0_unlikeClock_7 : decode cX0_unlikeClock 7 = .ok (.aload_n 0, 1) := by decide +kernel
theorem dX0_unlikeClock_8 : decode cX0_unlikeClock 8 = .ok (.getfield 47, 3) := by decide +kernel
theorem dX0_unlikeClock_11 : decode cX0_unlikeClock 11 = .ok (.if_icmp .ge 29, 3) := by decide +kernel
theorem dX0_unlikeClock_14 : decode cX0_unlikeClock 14 = .ok (.aload_n 0, 1) := by decide +kernel
theorem dX0_unlikeClock_15 : decode cX0_unlikeClock 15 = .ok (.getfield 15, 3) := by decide +kernel
theorem dX0_unlikeClock_18 : decode cX0_unlikeClock 18 = .ok (.iload 4, 2) := by decide +kernel
theorem dX0_unlikeClock_20 : decode cX0_unlikeClock 20 = .ok (.iaload, 1) := by decide +kernel
theorem dX0_unlikeClock_21 : decode cX0_unlikeClock 21 = .ok (.iload_n 2, 1) := by decide +kernel
theorem dX0_unlikeClock_22 : decode cX0_unlikeClock 22 = .ok (.if_icmp .ne 12, 3) := by decide +kernel
theorem dX0_unlikeClock_25 : decode cX0_unlikeClock 25 = .ok (.iload_n 3, 1) := by decide +kernel
theorem dX0_unlikeClock_26 : decode cX0_unlikeClock 26 = .ok (.iconst 1, 1) := by decide +kernel
theorem dX0_unlikeClock_27 : decode cX0_unlikeClock 27 = .ok (.iload 4, 2) := by decide +kernel
theorem dX0_unlikeClock_29 : decode cX0_unlikeClock 29 = .ok (.ishl, 1) := by decide +kernel
theorem dX0_unlikeClock_30 : decode cX0_unlikeClock 30 = .ok (.iconst (-1), 1) := by decide +kernel
theorem dX0_unlikeClock_31 : decode cX0_unlikeClock 31 = .ok (.ixor, 1) := by decide +kernel
theorem dX0_unlikeClock_32 : decode cX0_unlikeClock 32 = .ok (.iand, 1) := by decide +kernel
theorem dX0_unlikeClock_33 : decode cX0_unlikeClock 33 = .ok (.istore_n 3, 1) := by decide +kernel
theorem dX0_unlikeClock_34 : decode cX0_unlikeClock 34 = .ok (.iinc 4 1, 3) := by decide +kernel
theorem dX0_unlikeClock_37 : decode cX0_unlikeClock 37 = .ok (.goto (-32), 3) := by decide +kernel
theorem dX0_unlikeClock_40 : decode cX0_unlikeClock 40 = .ok (.iload_n 3, 1) := by decide +kernel
theorem dX0_unlikeClock_41 : decode cX0_unlikeClock 41 = .ok (.ireturn, 1) := by decide +kernel
theorem dX0_isCrossing_0 : decode cX0_isCrossing 0 = .ok (.aload_n 0, 1) := by decide +kernel
theorem dX0_isCrossing_1 : decode cX0_isCrossing 1 = .ok (.iload_n 1, 1) := by decide +kernel
theorem dX0_isCrossing_2 : decode cX0_isCrossing 2 = .ok (.invokevirtual 68, 3) := by decide +kernel
theorem dX0_isCrossing_5 : decode cX0_isCrossing 5 = .ok (.ifCond .eq 16, 3) := by decide +kernel
theorem dX0_isCrossing_8 : decode cX0_isCrossing 8 = .ok (.aload_n 0, 1) := by decide +kernel
theorem dX0_isCrossing_9 : decode cX0_isCrossing 9 = .ok (.getfield 27, 3) := by decide +kernel
theorem dX0_isCrossing_12 : decode cX0_isCrossing 12 = .ok (.iload_n 1, 1) := by decide +kernel
theorem dX0_isCrossing_13 : decode cX0_isCrossing 13 = .ok (.iaload, 1) := by decide +kernel
theorem dX0_isCrossing_14 : decode cX0_isCrossing 14 = .ok (.ifCond .eq 7, 3) := by decide +kernel
theorem dX0_isCrossing_17 : decode cX0_isCrossing 17 = .ok (.iconst 1, 1) := by decide +kernel
theorem dX0_isCrossing_18 : decode cX0_isCrossing 18 = .ok (.goto 4, 3) := by decide +kernel
theorem dX0_isCrossing_21 : decode cX0_isCrossing 21 = .ok (.iconst 0, 1) := by decide +kernel
theorem dX0_isCrossing_22 : decode cX0_isCrossing 22 = .ok (.ireturn, 1) := by decide +kernel
theorem dX0_isDirect_0 : decode cX0_isDirect 0 = .ok (.aload_n 0, 1) := by decide +kernel
theorem dX0_isDirect_1 : decode cX0_isDirect 1 = .ok (.iload_n 1, 1) := by decide +kernel
theorem dX0_isDirect_2 : decode cX0_isDirect 2 = .ok (.invokevirtual 68, 3) := by decide +kernel
theorem dX0_isDirect_5 : decode cX0_isDirect 5 = .ok (.ifCond .eq 27, 3) := by decide +kernel
theorem dX0_isDirect_8 : decode cX0_isDirect 8 = .ok (.aload_n 0, 1) := by decide +kernel
theorem dX0_isDirect_9 : decode cX0_isDirect 9 = .ok (.getfield 27, 3) := by decide +kernel
theorem dX0_isDirect_12 : decode cX0_isDirect 12 = .ok (.iload_n 1, 1) := by decide +kernel
theorem dX0_isDirect_13 : decode cX0_isDirect 13 = .ok (.iaload, 1) := by decide +kernel
theorem dX0_isDirect_14 : decode cX0_isDirect 14 = .ok (.aload_n 0, 1) := by decide +kernel
theorem dX0_isDirect_15 : decode cX0_isDirect 15 = .ok (.getfield 18, 3) := by decide +kernel
theorem dX0_isDirect_18 : decode cX0_isDirect 18 = .ok (.iload_n 1, 1) := by decide +kernel
theorem dX0_isDirect_19 : decode cX0_isDirect 19 = .ok (.iconst 3, 1) := by decide +kernel
theorem dX0_isDirect_20 : decode cX0_isDirect 20 = .ok (.imul, 1) := by decide +kernel
theorem dX0_isDirect_21 : decode cX0_isDirect 21 = .ok (.iaload, 1) := by decide +kernel
theorem dX0_isDirect_22 : decode cX0_isDirect 22 = .ok (.invokestatic 101, 3) := by decide +kernel
theorem dX0_isDirect_25 : decode cX0_isDirect 25 = .ok (.ifCond .eq 7, 3) := by decide +kernel
theorem dX0_isDirect_28 : decode cX0_isDirect 28 = .ok (.iconst 1, 1) := by decide +kernel
theorem dX0_isDirect_29 : decode cX0_isDirect 29 = .ok (.goto 4, 3) := by decide +kernel
theorem dX0_isDirect_32 : decode cX0_isDirect 32 = .ok (.iconst 0, 1) := by decide +kernel
theorem dX0_isDirect_33 : decode cX0_isDirect 33 = .ok (.ireturn, 1) := by decide +kernel
theorem dX0_isSafe_0 : decode cX0_isSafe 0 = .ok (.aload_n 0, 1) := by decide +kernel
theorem dX0_isSafe_1 : decode cX0_isSafe 1 = .ok (.iload_n 1, 1) := by decide +kernel
theorem dX0_isSafe_2 : decode cX0_isSafe 2 = .ok (.invokevirtual 104, 3) := by decide +kernel
theorem dX0_isSafe_5 : decode cX0_isSafe 5 = .ok (.ifCond .eq 19, 3) := by decide +kernel
theorem dX0_isSafe_8 : decode cX0_isSafe 8 = .ok (.aload_n 0, 1) := by decide +kernel
theorem dX0_isSafe_9 : decode cX0_isSafe 9 = .ok (.getfield 30, 3) := by decide +kernel
theorem dX0_isSafe_12 : decode cX0_isSafe 12 = .ok (.iload_n 1, 1) := by decide +kernel
theorem dX0_isSafe_13 : decode cX0_isSafe 13 = .ok (.invokestatic 60, 3) := by decide +kernel
theorem dX0_isSafe_16 : decode cX0_isSafe 16 = .ok (.iload_n 2, 1) := by decide +kernel
theorem dX0_isSafe_17 : decode cX0_isSafe 17 = .ok (.if_icmp .lt 7, 3) := by decide +kernel
theorem dX0_isSafe_20 : decode cX0_isSafe 20 = .ok (.iconst 1, 1) := by decide +kernel
theorem dX0_isSafe_21 : decode cX0_isSafe 21 = .ok (.goto 4, 3) := by decide +kernel
theorem dX0_isSafe_24 : decode cX0_isSafe 24 = .ok (.iconst 0, 1) := by decide +kernel
theorem dX0_isSafe_25 : decode cX0_isSafe 25 = .ok (.ireturn, 1) := by decide +kernel
theorem dX0_kindOf_0 : decode cX0_kindOf 0 = .ok (.aload_n 0, 1) := by decide +kernel
theorem dX0_kindOf_1 : decode cX0_kindOf 1 = .ok (.iload_n 1, 1) := by decide +kernel
theorem dX0_kindOf_2 : decode cX0_kindOf 2 = .ok (.invokevirtual 107, 3) := by decide +kernel
theorem dX0_kindOf_5 : decode cX0_kindOf 5 = .ok (.ifCond .ne 6, 3) := by decide +kernel
theorem dX0_kindOf_8 : decode cX0_kindOf 8 = .ok (.bipush (-9), 2) := by decide +kernel
theorem dX0_kindOf_10 : decode cX0_kindOf 10 = .ok (.ireturn, 1) := by decide +kernel
theorem dX0_kindOf_11 : decode cX0_kindOf 11 = .ok (.aload_n 0, 1) := by decide +kernel
theorem dX0_kindOf_12 : decode cX0_kindOf 12 = .ok (.iload_n 1, 1) := by decide +kernel
theorem dX0_kindOf_13 : decode cX0_kindOf 13 = .ok (.invokevirtual 104, 3) := by decide +kernel
theorem dX0_kindOf_16 : decode cX0_kindOf 16 = .ok (.ifCond .eq 18, 3) := by decide +kernel
theorem dX0_kindOf_19 : decode cX0_kindOf 19 = .ok (.aload_n 0, 1) := by decide +kernel
theorem dX0_kindOf_20 : decode cX0_kindOf 20 = .ok (.iload_n 1, 1) := by decide +kernel
theorem dX0_kindOf_21 : decode cX0_kindOf 21 = .ok (.iload_n 2, 1) := by decide +kernel
theorem dX0_kindOf_22 : decode cX0_kindOf 22 = .ok (.invokevirtual 110, 3) := by decide +kernel
theorem dX0_kindOf_25 : decode cX0_kindOf 25 = .ok (.ifCond .eq 7, 3) := by decide +kernel
theorem dX0_kindOf_28 : decode cX0_kindOf 28 = .ok (.iconst 0, 1) := by decide +kernel
theorem dX0_kindOf_29 : decode cX0_kindOf 29 = .ok (.goto 4, 3) := by decide +kernel
theorem dX0_kindOf_32 : decode cX0_kindOf 32 = .ok (.iconst 1, 1) := by decide +kernel
theorem dX0_kindOf_33 : decode cX0_kindOf 33 = .ok (.ireturn, 1) := by decide +kernel
theorem dX0_kindOf_34 : decode cX0_kindOf 34 = .ok (.aload_n 0, 1) := by decide +kernel
theorem dX0_kindOf_35 : decode cX0_kindOf 35 = .ok (.iload_n 1, 1) := by decide +kernel
theorem dX0_kindOf_36 : decode cX0_kindOf 36 = .ok (.iload_n 2, 1) := by decide +kernel
theorem dX0_kindOf_37 : decode cX0_kindOf 37 = .ok (.invokevirtual 113, 3) := by decide +kernel
theorem dX0_kindOf_40 : decode cX0_kindOf 40 = .ok (.ifCond .eq 7, 3) := by decide +kernel
theorem dX0_kindOf_43 : decode cX0_kindOf 43 = .ok (.iconst 2, 1) := by decide +kernel
theorem dX0_kindOf_44 : decode cX0_kindOf 44 = .ok (.goto 4, 3) := by decide +kernel
theorem dX0_kindOf_47 : decode cX0_kindOf 47 = .ok (.iconst 3, 1) := by decide +kernel
theorem dX0_kindOf_48 : decode cX0_kindOf 48 = .ok (.ireturn, 1) := by decide +kernel
theorem dX0_isHeld_0 : decode cX0_isHeld 0 = .ok (.aload_n 0, 1) := by decide +kernel
theorem dX0_isHeld_1 : decode cX0_isHeld 1 = .ok (.iload_n 1, 1) := by decide +kernel
theorem dX0_isHeld_2 : decode cX0_isHeld 2 = .ok (.iconst 0, 1) := by decide +kernel
theorem dX0_isHeld_3 : decode cX0_isHeld 3 = .ok (.invokevirtual 116, 3) := by decide +kernel
theorem dX0_isHeld_6 : decode cX0_isHeld 6 = .ok (.istore_n 3, 1) := by decide +kernel
theorem dX0_isHeld_7 : decode cX0_isHeld 7 = .ok (.aload_n 0, 1) := by decide +kernel
theorem dX0_isHeld_8 : decode cX0_isHeld 8 = .ok (.getfield 15, 3) := by decide +kernel
theorem dX0_isHeld_11 : decode cX0_isHeld 11 = .ok (.iload_n 1, 1) := by decide +kernel
theorem dX0_isHeld_12 : decode cX0_isHeld 12 = .ok (.invokestatic 60, 3) := by decide +kernel
theorem dX0_isHeld_15 : decode cX0_isHeld 15 = .ok (.istore 4, 2) := by decide +kernel
theorem dX0_isHeld_17 : decode cX0_isHeld 17 = .ok (.aload_n 0, 1) := by decide +kernel
theorem dX0_isHeld_18 : decode cX0_isHeld 18 = .ok (.aload_n 0, 1) := by decide +kernel
theorem dX0_isHeld_19 : decode cX0_isHeld 19 = .ok (.getfield 27, 3) := by decide +kernel
theorem dX0_isHeld_22 : decode cX0_isHeld 22 = .ok (.iload_n 1, 1) := by decide +kernel
theorem dX0_isHeld_23 : decode cX0_isHeld 23 = .ok (.invokestatic 60, 3) := by decide +kernel
theorem dX0_isHeld_26 : decode cX0_isHeld 26 = .ok (.invokevirtual 119, 3) := by decide +kernel
theorem dX0_isHeld_29 : decode cX0_isHeld 29 = .ok (.istore 5, 2) := by decide +kernel
theorem dX0_isHeld_31 : decode cX0_isHeld 31 = .ok (.aload_n 0, 1) := by decide +kernel
theorem dX0_isHeld_32 : decode cX0_isHeld 32 = .ok (.iload_n 3, 1) := by decide +kernel
theorem dX0_isHeld_33 : decode cX0_isHeld 33 = .ok (.iconst 5, 1) := by decide +kernel
theorem dX0_isHeld_34 : decode cX0_isHeld 34 = .ok (.invokevirtual 97, 3) := by decide +kernel
theorem dX0_isHeld_37 : decode cX0_isHeld 37 = .ok (.ifCond .eq 12, 3) := by decide +kernel
theorem dX0_isHeld_40 : decode cX0_isHeld 40 = .ok (.iload 5, 2) := by decide +kernel
theorem dX0_isHeld_42 : decode cX0_isHeld 42 = .ok (.invokestatic 122, 3) := by decide +kernel
theorem dX0_isHeld_45 : decode cX0_isHeld 45 = .ok (.iconst 1, 1) := by decide +kernel
theorem dX0_isHeld_46 : decode cX0_isHeld 46 = .ok (.if_icmp .eq 5, 3) := by decide +kernel
theorem dX0_isHeld_49 : decode cX0_isHeld 49 = .ok (.iconst 0, 1) := by decide +kernel
theorem dX0_isHeld_50 : decode cX0_isHeld 50 = .ok (.ireturn, 1) := by decide +kernel
theorem dX0_isHeld_51 : decode cX0_isHeld 51 = .ok (.aload_n 0, 1) := by decide +kernel
theorem dX0_isHeld_52 : decode cX0_isHeld 52 = .ok (.iload_n 3, 1) := by decide +kernel
theorem dX0_isHeld_53 : decode cX0_isHeld 53 = .ok (.iconst 0, 1) := by decide +kernel
theorem dX0_isHeld_54 : decode cX0_isHeld 54 = .ok (.invokevirtual 116, 3) := by decide +kernel
theorem dX0_isHeld_57 : decode cX0_isHeld 57 = .ok (.istore 6, 2) := by decide +kernel
theorem dX0_isHeld_59 : decode cX0_isHeld 59 = .ok (.aload_n 0, 1) := by decide +kernel
theorem dX0_isHeld_60 : decode cX0_isHeld 60 = .ok (.aload_n 0, 1) := by decide +kernel
theorem dX0_isHeld_61 : decode cX0_isHeld 61 = .ok (.getfield 24, 3) := by decide +kernel
theorem dX0_isHeld_64 : decode cX0_isHeld 64 = .ok (.iload 6, 2) := by decide +kernel
theorem dX0_isHeld_66 : decode cX0_isHeld 66 = .ok (.invokestatic 60, 3) := by decide +kernel
theorem dX0_isHeld_69 : decode cX0_isHeld 69 = .ok (.invokevirtual 119, 3) := by decide +kernel
theorem dX0_isHeld_72 : decode cX0_isHeld 72 = .ok (.iconst 1, 1) := by decide +kernel
theorem dX0_isHeld_73 : decode cX0_isHeld 73 = .ok (.iload 4, 2) := by decide +kernel
theorem dX0_isHeld_75 : decode cX0_isHeld 75 = .ok (.ishl, 1) := by decide +kernel
theorem dX0_isHeld_76 : decode cX0_isHeld 76 = .ok (.if_icmp .eq 5, 3) := by decide +kernel
theorem dX0_isHeld_79 : decode cX0_isHeld 79 = .ok (.iconst 0, 1) := by decide +kernel
theorem dX0_isHeld_80 : decode cX0_isHeld 80 = .ok (.ireturn, 1) := by decide +kernel
theorem dX0_isHeld_81 : decode cX0_isHeld 81 = .ok (.aload_n 0, 1) := by decide +kernel
theorem dX0_isHeld_82 : decode cX0_isHeld 82 = .ok (.iload 6, 2) := by decide +kernel
theorem dX0_isHeld_84 : decode cX0_isHeld 84 = .ok (.iload 4, 2) := by decide +kernel
theorem dX0_isHeld_86 : decode cX0_isHeld 86 = .ok (.invokevirtual 127, 3) := by decide +kernel
theorem dX0_isHeld_89 : decode cX0_isHeld 89 = .ok (.istore 7, 2) := by decide +kernel
theorem dX0_isHeld_91 : decode cX0_isHeld 91 = .ok (.iconst 0, 1) := by decide +kernel
theorem dX0_isHeld_92 : decode cX0_isHeld 92 = .ok (.istore 8, 2) := by decide +kernel
theorem dX0_isHeld_94 : decode cX0_isHeld 94 = .ok (.iload 8, 2) := by decide +kernel
theorem dX0_isHeld_96 : decode cX0_isHeld 96 = .ok (.aload_n 0, 1) := by decide +kernel
theorem dX0_isHeld_97 : decode cX0_isHeld 97 = .ok (.getfield 47, 3) := by decide +kernel
theorem dX0_isHeld_100 : decode cX0_isHeld 100 = .ok (.if_icmp .ge 59, 3) := by decide +kernel
theorem dX0_isHeld_103 : decode cX0_isHeld 103 = .ok (.iload 7, 2) := by decide +kernel
theorem dX0_isHeld_105 : decode cX0_isHeld 105 = .ok (.iload 8, 2) := by decide +kernel
theorem dX0_isHeld_107 : decode cX0_isHeld 107 = .ok (.invokestatic 101, 3) := by decide +kernel
theorem dX0_isHeld_110 : decode cX0_isHeld 110 = .ok (.ifCond .eq 43, 3) := by decide +kernel
theorem dX0_isHeld_113 : decode cX0_isHeld 113 = .ok (.aload_n 0, 1) := by decide +kernel
theorem dX0_isHeld_114 : decode cX0_isHeld 114 = .ok (.getfield 15, 3) := by decide +kernel
theorem dX0_isHeld_117 : decode cX0_isHeld 117 = .ok (.iload 8, 2) := by decide +kernel
theorem dX0_isHeld_119 : decode cX0_isHeld 119 = .ok (.iaload, 1) := by decide +kernel
theorem dX0_isHeld_120 : decode cX0_isHeld 120 = .ok (.iload 4, 2) := by decide +kernel
theorem dX0_isHeld_122 : decode cX0_isHeld 122 = .ok (.if_icmp .ne 31, 3) := by decide +kernel
theorem dX0_isHeld_125 : decode cX0_isHeld 125 = .ok (.aload_n 0, 1) := by decide +kernel
theorem dX0_isHeld_126 : decode cX0_isHeld 126 = .ok (.iload 8, 2) := by decide +kernel
theorem dX0_isHeld_128 : decode cX0_isHeld 128 = .ok (.iload_n 2, 1) := by decide +kernel
theorem dX0_isHeld_129 : decode cX0_isHeld 129 = .ok (.invokevirtual 110, 3) := by decide +kernel
theorem dX0_isHeld_132 : decode cX0_isHeld 132 = .ok (.ifCond .eq 21, 3) := by decide +kernel
theorem dX0_isHeld_135 : decode cX0_isHeld 135 = .ok (.aload_n 0, 1) := by decide +kernel
theorem dX0_isHeld_136 : decode cX0_isHeld 136 = .ok (.aload_n 0, 1) := by decide +kernel
theorem dX0_isHeld_137 : decode cX0_isHeld 137 = .ok (.getfield 27, 3) := by decide +kernel
theorem dX0_isHeld_140 : decode cX0_isHeld 140 = .ok (.iload 8, 2) := by decide +kernel
theorem dX0_isHeld_142 : decode cX0_isHeld 142 = .ok (.iaload, 1) := by decide +kernel
theorem dX0_isHeld_143 : decode cX0_isHeld 143 = .ok (.invokevirtual 119, 3) := by decide +kernel
theorem dX0_isHeld_146 : decode cX0_isHeld 146 = .ok (.iload 5, 2) := by decide +kernel
theorem dX0_isHeld_148 : decode cX0_isHeld 148 = .ok (.if_icmp .ne 5, 3) := by decide +kernel
theorem dX0_isHeld_151 : decode cX0_isHeld 151 = .ok (.iconst 1, 1) := by decide +kernel
theorem dX0_isHeld_152 : decode cX0_isHeld 152 = .ok (.ireturn, 1) := by decide +kernel
theorem dX0_isHeld_153 : decode cX0_isHeld 153 = .ok (.iinc 8 1, 3) := by decide +kernel
theorem dX0_isHeld_156 : decode cX0_isHeld 156 = .ok (.goto (-62), 3) := by decide +kernel
theorem dX0_isHeld_159 : decode cX0_isHeld 159 = .ok (.iconst 0, 1) := by decide +kernel
theorem dX0_isHeld_160 : decode cX0_isHeld 160 = .ok (.ireturn, 1) := by decide +kernel
theorem dX0_backFrom_0 : decode cX0_backFrom 0 = .ok (.iconst 1, 1) := by decide +kernel
theorem dX0_backFrom_1 : decode cX0_backFrom 1 = .ok (.iload_n 1, 1) := by decide +kernel
theorem dX0_backFrom_2 : decode cX0_backFrom 2 = .ok (.ishl, 1) := by decide +kernel
theorem dX0_backFrom_3 : decode cX0_backFrom 3 = .ok (.istore_n 3, 1) := by decide +kernel
theorem dX0_backFrom_4 : decode cX0_backFrom 4 = .ok (.iload_n 1, 1) := by decide +kernel
theorem dX0_backFrom_5 : decode cX0_backFrom 5 = .ok (.istore 4, 2) := by decide +kernel
theorem dX0_backFrom_7 : decode cX0_backFrom 7 = .ok (.iload 4, 2) := by decide +kernel
theorem dX0_backFrom_9 : decode cX0_backFrom 9 = .ok (.ifCond .lt 40, 3) := by decide +kernel
theorem dX0_backFrom_12 : decode cX0_backFrom 12 = .ok (.iload_n 3, 1) := by decide +kernel
theorem dX0_backFrom_13 : decode cX0_backFrom 13 = .ok (.iload 4, 2) := by decide +kernel
theorem dX0_backFrom_15 : decode cX0_backFrom 15 = .ok (.invokestatic 101, 3) := by decide +kernel
theorem dX0_backFrom_18 : decode cX0_backFrom 18 = .ok (.ifCond .eq 25, 3) := by decide +kernel
theorem dX0_backFrom_21 : decode cX0_backFrom 21 = .ok (.aload_n 0, 1) := by decide +kernel
theorem dX0_backFrom_22 : decode cX0_backFrom 22 = .ok (.iload 4, 2) := by decide +kernel
theorem dX0_backFrom_24 : decode cX0_backFrom 24 = .ok (.iload_n 2, 1) := by decide +kernel
theorem dX0_backFrom_25 : decode cX0_backFrom 25 = .ok (.invokevirtual 130, 3) := by decide +kernel
theorem dX0_backFrom_28 : decode cX0_backFrom 28 = .ok (.ifCond .eq 15, 3) := by decide +kernel
theorem dX0_backFrom_31 : decode cX0_backFrom 31 = .ok (.iload_n 3, 1) := by decide +kernel
theorem dX0_backFrom_32 : decode cX0_backFrom 32 = .ok (.aload_n 0, 1) := by decide +kernel
theorem dX0_backFrom_33 : decode cX0_backFrom 33 = .ok (.getfield 21, 3) := by decide +kernel
theorem dX0_backFrom_36 : decode cX0_backFrom 36 = .ok (.iload 4, 2) := by decide +kernel
theorem dX0_backFrom_38 : decode cX0_backFrom 38 = .ok (.invokestatic 60, 3) := by decide +kernel
theorem dX0_backFrom_41 : decode cX0_backFrom 41 = .ok (.ior, 1) := by decide +kernel
theorem dX0_backFrom_42 : decode cX0_backFrom 42 = .ok (.istore_n 3, 1) := by decide +kernel
theorem dX0_backFrom_43 : decode cX0_backFrom 43 = .ok (.iinc 4 (-1), 3) := by decide +kernel
theorem dX0_backFrom_46 : decode cX0_backFrom 46 = .ok (.goto (-39), 3) := by decide +kernel
theorem dX0_backFrom_49 : decode cX0_backFrom 49 = .ok (.iload_n 3, 1) := by decide +kernel
theorem dX0_backFrom_50 : decode cX0_backFrom 50 = .ok (.ireturn, 1) := by decide +kernel
theorem dX0_reachedFrom_0 : decode cX0_reachedFrom 0 = .ok (.iconst 1, 1) := by decide +kernel
theorem dX0_reachedFrom_1 : decode cX0_reachedFrom 1 = .ok (.iload_n 1, 1) := by decide +kernel
theorem dX0_reachedFrom_2 : decode cX0_reachedFrom 2 = .ok (.ishl, 1) := by decide +kernel
theorem dX0_reachedFrom_3 : decode cX0_reachedFrom 3 = .ok (.istore_n 2, 1) := by decide +kernel
theorem dX0_reachedFrom_4 : decode cX0_reachedFrom 4 = .ok (.aload_n 0, 1) := by decide +kernel
theorem dX0_reachedFrom_5 : decode cX0_reachedFrom 5 = .ok (.getfield 15, 3) := by decide +kernel
theorem dX0_reachedFrom_8 : decode cX0_reachedFrom 8 = .ok (.iload_n 1, 1) := by decide +kernel
theorem dX0_reachedFrom_9 : decode cX0_reachedFrom 9 = .ok (.invokestatic 60, 3) := by decide +kernel
theorem dX0_reachedFrom_12 : decode cX0_reachedFrom 12 = .ok (.istore_n 3, 1) := by decide +kernel
theorem dX0_reachedFrom_13 : decode cX0_reachedFrom 13 = .ok (.iload_n 1, 1) := by decide +kernel
theorem dX0_reachedFrom_14 : decode cX0_reachedFrom 14 = .ok (.iconst 1, 1) := by decide +kernel
theorem dX0_reachedFrom_15 : decode cX0_reachedFrom 15 = .ok (.iadd, 1) := by decide +kernel
theorem dX0_reachedFrom_16 : decode cX0_reachedFrom 16 = .ok (.istore 4, 2) := by decide +kernel
theorem dX0_reachedFrom_18 : decode cX0_reachedFrom 18 = .ok (.iload 4, 2) := by decide +kernel
theorem dX0_reachedFrom_20 : decode cX0_reachedFrom 20 = .ok (.aload_n 0, 1) := by decide +kernel
theorem dX0_reachedFrom_21 : decode cX0_reachedFrom 21 = .ok (.getfield 47, 3) := by decide +kernel
theorem dX0_reachedFrom_24 : decode cX0_reachedFrom 24 = .ok (.if_icmp .ge 38, 3) := by decide +kernel
theorem dX0_reachedFrom_27 : decode cX0_reachedFrom 27 = .ok (.aload_n 0, 1) := by decide +kernel
theorem dX0_reachedFrom_28 : decode cX0_reachedFrom 28 = .ok (.getfield 21, 3) := by decide +kernel
theorem dX0_reachedFrom_31 : decode cX0_reachedFrom 31 = .ok (.iload 4, 2) := by decide +kernel
theorem dX0_reachedFrom_33 : decode cX0_reachedFrom 33 = .ok (.iaload, 1) := by decide +kernel
theorem dX0_reachedFrom_34 : decode cX0_reachedFrom 34 = .ok (.iload_n 2, 1) := by decide +kernel
theorem dX0_reachedFrom_35 : decode cX0_reachedFrom 35 = .ok (.iand, 1) := by decide +kernel
theorem dX0_reachedFrom_36 : decode cX0_reachedFrom 36 = .ok (.ifCond .eq 20, 3) := by decide +kernel
theorem dX0_reachedFrom_39 : decode cX0_reachedFrom 39 = .ok (.aload_n 0, 1) := by decide +kernel
theorem dX0_reachedFrom_40 : decode cX0_reachedFrom 40 = .ok (.iload 4, 2) := by decide +kernel
theorem dX0_reachedFrom_42 : decode cX0_reachedFrom 42 = .ok (.iload_n 3, 1) := by decide +kernel
theorem dX0_reachedFrom_43 : decode cX0_reachedFrom 43 = .ok (.invokevirtual 130, 3) := by decide +kernel
theorem dX0_reachedFrom_46 : decode cX0_reachedFrom 46 = .ok (.ifCond .eq 10, 3) := by decide +kernel
theorem dX0_reachedFrom_49 : decode cX0_reachedFrom 49 = .ok (.iload_n 2, 1) := by decide +kernel
theorem dX0_reachedFrom_50 : decode cX0_reachedFrom 50 = .ok (.iconst 1, 1) := by decide +kernel
theorem dX0_reachedFrom_51 : decode cX0_reachedFrom 51 = .ok (.iload 4, 2) := by decide +kernel
theorem dX0_reachedFrom_53 : decode cX0_reachedFrom 53 = .ok (.ishl, 1) := by decide +kernel
theorem dX0_reachedFrom_54 : decode cX0_reachedFrom 54 = .ok (.ior, 1) := by decide +kernel
theorem dX0_reachedFrom_55 : decode cX0_reachedFrom 55 = .ok (.istore_n 2, 1) := by decide +kernel
theorem dX0_reachedFrom_56 : decode cX0_reachedFrom 56 = .ok (.iinc 4 1, 3) := by decide +kernel
theorem dX0_reachedFrom_59 : decode cX0_reachedFrom 59 = .ok (.goto (-41), 3) := by decide +kernel
theorem dX0_reachedFrom_62 : decode cX0_reachedFrom 62 = .ok (.iload_n 2, 1) := by decide +kernel
theorem dX0_reachedFrom_63 : decode cX0_reachedFrom 63 = .ok (.ireturn, 1) := by decide +kernel
theorem dX0_passes_0 : decode cX0_passes 0 = .ok (.aload_n 0, 1) := by decide +kernel
theorem dX0_passes_1 : decode cX0_passes 1 = .ok (.iload_n 1, 1) := by decide +kernel
theorem dX0_passes_2 : decode cX0_passes 2 = .ok (.invokevirtual 72, 3) := by decide +kernel
theorem dX0_passes_5 : decode cX0_passes 5 = .ok (.ifCond .eq 24, 3) := by decide +kernel
theorem dX0_passes_8 : decode cX0_passes 8 = .ok (.aload_n 0, 1) := by decide +kernel
theorem dX0_passes_9 : decode cX0_passes 9 = .ok (.iload_n 1, 1) := by decide +kernel
theorem dX0_passes_10 : decode cX0_passes 10 = .ok (.iconst 1, 1) := by decide +kernel
theorem dX0_passes_11 : decode cX0_passes 11 = .ok (.invokevirtual 97, 3) := by decide +kernel
theorem dX0_passes_14 : decode cX0_passes 14 = .ok (.ifCond .eq 19, 3) := by decide +kernel
theorem dX0_passes_17 : decode cX0_passes 17 = .ok (.aload_n 0, 1) := by decide +kernel
theorem dX0_passes_18 : decode cX0_passes 18 = .ok (.getfield 15, 3) := by decide +kernel
theorem dX0_passes_21 : decode cX0_passes 21 = .ok (.iload_n 1, 1) := by decide +kernel
theorem dX0_passes_22 : decode cX0_passes 22 = .ok (.invokestatic 60, 3) := by decide +kernel
theorem dX0_passes_25 : decode cX0_passes 25 = .ok (.iload_n 2, 1) := by decide +kernel
theorem dX0_passes_26 : decode cX0_passes 26 = .ok (.if_icmp .ne 7, 3) := by decide +kernel
theorem dX0_passes_29 : decode cX0_passes 29 = .ok (.iconst 1, 1) := by decide +kernel
theorem dX0_passes_30 : decode cX0_passes 30 = .ok (.goto 4, 3) := by decide +kernel
theorem dX0_passes_33 : decode cX0_passes 33 = .ok (.iconst 0, 1) := by decide +kernel
theorem dX0_passes_34 : decode cX0_passes 34 = .ok (.ireturn, 1) := by decide +kernel
theorem dX0_whereJoined_0 : decode cX0_whereJoined 0 = .ok (.aload_n 0, 1) := by decide +kernel
theorem dX0_whereJoined_1 : decode cX0_whereJoined 1 = .ok (.iload_n 1, 1) := by decide +kernel
theorem dX0_whereJoined_2 : decode cX0_whereJoined 2 = .ok (.invokevirtual 104, 3) := by decide +kernel
theorem dX0_whereJoined_5 : decode cX0_whereJoined 5 = .ok (.ifCond .eq 30, 3) := by decide +kernel
theorem dX0_whereJoined_8 : decode cX0_whereJoined 8 = .ok (.aload_n 0, 1) := by decide +kernel
theorem dX0_whereJoined_9 : decode cX0_whereJoined 9 = .ok (.iload_n 2, 1) := by decide +kernel
theorem dX0_whereJoined_10 : decode cX0_whereJoined 10 = .ok (.invokevirtual 104, 3) := by decide +kernel
theorem dX0_whereJoined_13 : decode cX0_whereJoined 13 = .ok (.ifCond .eq 22, 3) := by decide +kernel
theorem dX0_whereJoined_16 : decode cX0_whereJoined 16 = .ok (.aload_n 0, 1) := by decide +kernel
theorem dX0_whereJoined_17 : decode cX0_whereJoined 17 = .ok (.getfield 15, 3) := by decide +kernel
theorem dX0_whereJoined_20 : decode cX0_whereJoined 20 = .ok (.iload_n 1, 1) := by decide +kernel
theorem dX0_whereJoined_21 : decode cX0_whereJoined 21 = .ok (.invokestatic 60, 3) := by decide +kernel
theorem dX0_whereJoined_24 : decode cX0_whereJoined 24 = .ok (.aload_n 0, 1) := by decide +kernel
theorem dX0_whereJoined_25 : decode cX0_whereJoined 25 = .ok (.getfield 15, 3) := by decide +kernel
theorem dX0_whereJoined_28 : decode cX0_whereJoined 28 = .ok (.iload_n 2, 1) := by decide +kernel
theorem dX0_whereJoined_29 : decode cX0_whereJoined 29 = .ok (.invokestatic 60, 3) := by decide +kernel
theorem dX0_whereJoined_32 : decode cX0_whereJoined 32 = .ok (.if_icmp .eq 6, 3) := by decide +kernel
theorem dX0_whereJoined_35 : decode cX0_whereJoined 35 = .ok (.bipush (-9), 2) := by decide +kernel
theorem dX0_whereJoined_37 : decode cX0_whereJoined 37 = .ok (.ireturn, 1) := by decide +kernel
theorem dX0_whereJoined_38 : decode cX0_whereJoined 38 = .ok (.aload_n 0, 1) := by decide +kernel
theorem dX0_whereJoined_39 : decode cX0_whereJoined 39 = .ok (.iload_n 1, 1) := by decide +kernel
theorem dX0_whereJoined_40 : decode cX0_whereJoined 40 = .ok (.iconst 0, 1) := by decide +kernel
theorem dX0_whereJoined_41 : decode cX0_whereJoined 41 = .ok (.invokevirtual 116, 3) := by decide +kernel
theorem dX0_whereJoined_44 : decode cX0_whereJoined 44 = .ok (.istore_n 3, 1) := by decide +kernel
theorem dX0_whereJoined_45 : decode cX0_whereJoined 45 = .ok (.aload_n 0, 1) := by decide +kernel
theorem dX0_whereJoined_46 : decode cX0_whereJoined 46 = .ok (.iload_n 2, 1) := by decide +kernel
theorem dX0_whereJoined_47 : decode cX0_whereJoined 47 = .ok (.iconst 0, 1) := by decide +kernel
theorem dX0_whereJoined_48 : decode cX0_whereJoined 48 = .ok (.invokevirtual 116, 3) := by decide +kernel
theorem dX0_whereJoined_51 : decode cX0_whereJoined 51 = .ok (.istore 4, 2) := by decide +kernel
theorem dX0_whereJoined_53 : decode cX0_whereJoined 53 = .ok (.iload_n 3, 1) := by decide +kernel
theorem dX0_whereJoined_54 : decode cX0_whereJoined 54 = .ok (.iload 4, 2) := by decide +kernel
theorem dX0_whereJoined_56 : decode cX0_whereJoined 56 = .ok (.if_icmp .eq 39, 3) := by decide +kernel
theorem dX0_whereJoined_59 : decode cX0_whereJoined 59 = .ok (.aload_n 0, 1) := by decide +kernel
theorem dX0_whereJoined_60 : decode cX0_whereJoined 60 = .ok (.getfield 15, 3) := by decide +kernel
theorem dX0_whereJoined_63 : decode cX0_whereJoined 63 = .ok (.iload_n 3, 1) := by decide +kernel
theorem dX0_whereJoined_64 : decode cX0_whereJoined 64 = .ok (.invokestatic 60, 3) := by decide +kernel
theorem dX0_whereJoined_67 : decode cX0_whereJoined 67 = .ok (.aload_n 0, 1) := by decide +kernel
theorem dX0_whereJoined_68 : decode cX0_whereJoined 68 = .ok (.getfield 15, 3) := by decide +kernel
theorem dX0_whereJoined_71 : decode cX0_whereJoined 71 = .ok (.iload 4, 2) := by decide +kernel
theorem dX0_whereJoined_73 : decode cX0_whereJoined 73 = .ok (.invokestatic 60, 3) := by decide +kernel
theorem dX0_whereJoined_76 : decode cX0_whereJoined 76 = .ok (.if_icmp .ne 19, 3) := by decide +kernel
theorem dX0_whereJoined_79 : decode cX0_whereJoined 79 = .ok (.aload_n 0, 1) := by decide +kernel
theorem dX0_whereJoined_80 : decode cX0_whereJoined 80 = .ok (.getfield 33, 3) := by decide +kernel
theorem dX0_whereJoined_83 : decode cX0_whereJoined 83 = .ok (.iload_n 3, 1) := by decide +kernel
theorem dX0_whereJoined_84 : decode cX0_whereJoined 84 = .ok (.invokestatic 60, 3) := by decide +kernel
theorem dX0_whereJoined_87 : decode cX0_whereJoined 87 = .ok (.iload 4, 2) := by decide +kernel
theorem dX0_whereJoined_89 : decode cX0_whereJoined 89 = .ok (.invokestatic 101, 3) := by decide +kernel
theorem dX0_whereJoined_92 : decode cX0_whereJoined 92 = .ok (.ifCond .eq 6, 3) := by decide +kernel
theorem dX0_whereJoined_95 : decode cX0_whereJoined 95 = .ok (.bipush (-9), 2) := by decide +kernel
theorem dX0_whereJoined_97 : decode cX0_whereJoined 97 = .ok (.ireturn, 1) := by decide +kernel
theorem dX0_whereJoined_98 : decode cX0_whereJoined 98 = .ok (.aload_n 0, 1) := by decide +kernel
theorem dX0_whereJoined_99 : decode cX0_whereJoined 99 = .ok (.iload_n 1, 1) := by decide +kernel
theorem dX0_whereJoined_100 : decode cX0_whereJoined 100 = .ok (.invokevirtual 133, 3) := by decide +kernel
theorem dX0_whereJoined_103 : decode cX0_whereJoined 103 = .ok (.aload_n 0, 1) := by decide +kernel
theorem dX0_whereJoined_104 : decode cX0_whereJoined 104 = .ok (.iload_n 2, 1) := by decide +kernel
theorem dX0_whereJoined_105 : decode cX0_whereJoined 105 = .ok (.invokevirtual 133, 3) := by decide +kernel
theorem dX0_whereJoined_108 : decode cX0_whereJoined 108 = .ok (.iand, 1) := by decide +kernel
theorem dX0_whereJoined_109 : decode cX0_whereJoined 109 = .ok (.invokestatic 136, 3) := by decide +kernel
theorem dX0_whereJoined_112 : decode cX0_whereJoined 112 = .ok (.ireturn, 1) := by decide +kernel
theorem dX0_lowestBit_0 : decode cX0_lowestBit 0 = .ok (.iconst 0, 1) := by decide +kernel
theorem dX0_lowestBit_1 : decode cX0_lowestBit 1 = .ok (.istore_n 1, 1) := by decide +kernel
theorem dX0_lowestBit_2 : decode cX0_lowestBit 2 = .ok (.iload_n 1, 1) := by decide +kernel
theorem dX0_lowestBit_3 : decode cX0_lowestBit 3 = .ok (.bipush 16, 2) := by decide +kernel
theorem dX0_lowestBit_5 : decode cX0_lowestBit 5 = .ok (.if_icmp .ge 19, 3) := by decide +kernel
theorem dX0_lowestBit_8 : decode cX0_lowestBit 8 = .ok (.iload_n 0, 1) := by decide +kernel
theorem dX0_lowestBit_9 : decode cX0_lowestBit 9 = .ok (.iload_n 1, 1) := by decide +kernel
theorem dX0_lowestBit_10 : decode cX0_lowestBit 10 = .ok (.invokestatic 101, 3) := by decide +kernel
theorem dX0_lowestBit_13 : decode cX0_lowestBit 13 = .ok (.ifCond .eq 5, 3) := by decide +kernel
theorem dX0_lowestBit_16 : decode cX0_lowestBit 16 = .ok (.iload_n 1, 1) := by decide +kernel
theorem dX0_lowestBit_17 : decode cX0_lowestBit 17 = .ok (.ireturn, 1) := by decide +kernel
theorem dX0_lowestBit_18 : decode cX0_lowestBit 18 = .ok (.iinc 1 1, 3) := by decide +kernel
theorem dX0_lowestBit_21 : decode cX0_lowestBit 21 = .ok (.goto (-19), 3) := by decide +kernel
theorem dX0_lowestBit_24 : decode cX0_lowestBit 24 = .ok (.bipush (-9), 2) := by decide +kernel
theorem dX0_lowestBit_26 : decode cX0_lowestBit 26 = .ok (.ireturn, 1) := by decide +kernel
theorem dX0_weightOf_0 : decode cX0_weightOf 0 = .ok (.aload_n 0, 1) := by decide +kernel
theorem dX0_weightOf_1 : decode cX0_weightOf 1 = .ok (.iload_n 1, 1) := by decide +kernel
theorem dX0_weightOf_2 : decode cX0_weightOf 2 = .ok (.iload_n 2, 1) := by decide +kernel
theorem dX0_weightOf_3 : decode cX0_weightOf 3 = .ok (.invokevirtual 139, 3) := by decide +kernel
theorem dX0_weightOf_6 : decode cX0_weightOf 6 = .ok (.tableswitch 44 0 2 #[26, 38, 41], 26) := by decide +kernel
theorem dX0_weightOf_32 : decode cX0_weightOf 32 = .ok (.aload_n 0, 1) := by decide +kernel
theorem dX0_weightOf_33 : decode cX0_weightOf 33 = .ok (.getfield 30, 3) := by decide +kernel
theorem dX0_weightOf_36 : decode cX0_weightOf 36 = .ok (.iload_n 1, 1) := by decide +kernel
theorem dX0_weightOf_37 : decode cX0_weightOf 37 = .ok (.invokestatic 60, 3) := by decide +kernel
theorem dX0_weightOf_40 : decode cX0_weightOf 40 = .ok (.invokestatic 142, 3) := by decide +kernel
theorem dX0_weightOf_43 : decode cX0_weightOf 43 = .ok (.freturn, 1) := by decide +kernel
theorem dX0_weightOf_44 : decode cX0_weightOf 44 = .ok (.ldc 146, 2) := by decide +kernel
theorem dX0_weightOf_46 : decode cX0_weightOf 46 = .ok (.freturn, 1) := by decide +kernel
theorem dX0_weightOf_47 : decode cX0_weightOf 47 = .ok (.ldc 147, 2) := by decide +kernel
theorem dX0_weightOf_49 : decode cX0_weightOf 49 = .ok (.freturn, 1) := by decide +kernel
theorem dX0_weightOf_50 : decode cX0_weightOf 50 = .ok (.ldc 148, 2) := by decide +kernel
theorem dX0_weightOf_52 : decode cX0_weightOf 52 = .ok (.freturn, 1) := by decide +kernel
theorem dX0_halved_0 : decode cX0_halved 0 = .ok (.fconst 1, 1) := by decide +kernel
theorem dX0_halved_1 : decode cX0_halved 1 = .ok (.fstore_n 1, 1) := by decide +kernel
theorem dX0_halved_2 : decode cX0_halved 2 = .ok (.iconst 0, 1) := by decide +kernel
theorem dX0_halved_3 : decode cX0_halved 3 = .ok (.istore_n 2, 1) := by decide +kernel
theorem dX0_halved_4 : decode cX0_halved 4 = .ok (.iload_n 2, 1) := by decide +kernel
theorem dX0_halved_5 : decode cX0_halved 5 = .ok (.iload_n 0, 1) := by decide +kernel
theorem dX0_halved_6 : decode cX0_halved 6 = .ok (.if_icmp .ge 14, 3) := by decide +kernel
theorem dX0_halved_9 : decode cX0_halved 9 = .ok (.fload_n 1, 1) := by decide +kernel
theorem dX0_halved_10 : decode cX0_halved 10 = .ok (.ldc 149, 2) := by decide +kernel
theorem dX0_halved_12 : decode cX0_halved 12 = .ok (.fmul, 1) := by decide +kernel
theorem dX0_halved_13 : decode cX0_halved 13 = .ok (.fstore_n 1, 1) := by decide +kernel
theorem dX0_halved_14 : decode cX0_halved 14 = .ok (.iinc 2 1, 3) := by decide +kernel
theorem dX0_halved_17 : decode cX0_halved 17 = .ok (.goto (-13), 3) := by decide +kernel
theorem dX0_halved_20 : decode cX0_halved 20 = .ok (.fload_n 1, 1) := by decide +kernel
theorem dX0_halved_21 : decode cX0_halved 21 = .ok (.freturn, 1) := by decide +kernel
theorem dX1_init_0 : decode cX1_init 0 = .ok (.aload_n 0, 1) := by decide +kernel
theorem dX1_init_1 : decode cX1_init 1 = .ok (.invokespecial 3, 3) := by decide +kernel
theorem dX1_init_4 : decode cX1_init 4 = .ok (.aload_n 0, 1) := by decide +kernel
theorem dX1_init_5 : decode cX1_init 5 = .ok (.bipush 16, 2) := by decide +kernel
theorem dX1_init_7 : decode cX1_init 7 = .ok (.newarray .int, 2) := by decide +kernel
theorem dX1_init_9 : decode cX1_init 9 = .ok (.putfield 9, 3) := by decide +kernel
theorem dX1_init_12 : decode cX1_init 12 = .ok (.aload_n 0, 1) := by decide +kernel
theorem dX1_init_13 : decode cX1_init 13 = .ok (.bipush 16, 2) := by decide +kernel
theorem dX1_init_15 : decode cX1_init 15 = .ok (.newarray .int, 2) := by decide +kernel
theorem dX1_init_17 : decode cX1_init 17 = .ok (.putfield 15, 3) := by decide +kernel
theorem dX1_init_20 : decode cX1_init 20 = .ok (.aload_n 0, 1) := by decide +kernel
theorem dX1_init_21 : decode cX1_init 21 = .ok (.iconst 2, 1) := by decide +kernel
theorem dX1_init_22 : decode cX1_init 22 = .ok (.putfield 18, 3) := by decide +kernel
theorem dX1_init_25 : decode cX1_init 25 = .ok (.return_, 1) := by decide +kernel
theorem dX1_begin_0 : decode cX1_begin 0 = .ok (.aload_n 0, 1) := by decide +kernel
theorem dX1_begin_1 : decode cX1_begin 1 = .ok (.iconst 2, 1) := by decide +kernel
theorem dX1_begin_2 : decode cX1_begin 2 = .ok (.putfield 18, 3) := by decide +kernel
theorem dX1_begin_5 : decode cX1_begin 5 = .ok (.aload_n 0, 1) := by decide +kernel
theorem dX1_begin_6 : decode cX1_begin 6 = .ok (.iconst 0, 1) := by decide +kernel
theorem dX1_begin_7 : decode cX1_begin 7 = .ok (.putfield 22, 3) := by decide +kernel
theorem dX1_begin_10 : decode cX1_begin 10 = .ok (.aload_n 0, 1) := by decide +kernel
theorem dX1_begin_11 : decode cX1_begin 11 = .ok (.iconst 0, 1) := by decide +kernel
theorem dX1_begin_12 : decode cX1_begin 12 = .ok (.putfield 25, 3) := by decide +kernel
theorem dX1_begin_15 : decode cX1_begin 15 = .ok (.aload_n 0, 1) := by decide +kernel
theorem dX1_begin_16 : decode cX1_begin 16 = .ok (.iconst 0, 1) := by decide +kernel
theorem dX1_begin_17 : decode cX1_begin 17 = .ok (.putfield 28, 3) := by decide +kernel
theorem dX1_begin_20 : decode cX1_begin 20 = .ok (.iconst 0, 1) := by decide +kernel
theorem dX1_begin_21 : decode cX1_begin 21 = .ok (.istore_n 1, 1) := by decide +kernel
theorem dX1_begin_22 : decode cX1_begin 22 = .ok (.iload_n 1, 1) := by decide +kernel
theorem dX1_begin_23 : decode cX1_begin 23 = .ok (.bipush 16, 2) := by decide +kernel
theorem dX1_begin_25 : decode cX1_begin 25 = .ok (.if_icmp .ge 23, 3) := by decide +kernel
theorem dX1_begin_28 : decode cX1_begin 28 = .ok (.aload_n 0, 1) := by decide +kernel
theorem dX1_begin_29 : decode cX1_begin 29 = .ok (.getfield 9, 3) := by decide +kernel
theorem dX1_begin_32 : decode cX1_begin 32 = .ok (.iload_n 1, 1) := by decide +kernel
theorem dX1_begin_33 : decode cX1_begin 33 = .ok (.iconst 0, 1) := by decide +kernel
theorem dX1_begin_34 : decode cX1_begin 34 = .ok (.iastore, 1) := by decide +kernel
theorem dX1_begin_35 : decode cX1_begin 35 = .ok (.aload_n 0, 1) := by decide +kernel
theorem dX1_begin_36 : decode cX1_begin 36 = .ok (.getfield 15, 3) := by decide +kernel
theorem dX1_begin_39 : decode cX1_begin 39 = .ok (.iload_n 1, 1) := by decide +kernel
theorem dX1_begin_40 : decode cX1_begin 40 = .ok (.iconst 0, 1) := by decide +kernel
theorem dX1_begin_41 : decode cX1_begin 41 = .ok (.iastore, 1) := by decide +kernel
theorem dX1_begin_42 : decode cX1_begin 42 = .ok (.iinc 1 1, 3) := by decide +kernel
theorem dX1_begin_45 : decode cX1_begin 45 = .ok (.goto (-23), 3) := by decide +kernel
theorem dX1_begin_48 : decode cX1_begin 48 = .ok (.return_, 1) := by decide +kernel
theorem dX1_copy_0 : decode cX1_copy 0 = .ok (.aload_n 0, 1) := by decide +kernel
theorem dX1_copy_1 : decode cX1_copy 1 = .ok (.aload_n 1, 1) := by decide +kernel
theorem dX1_copy_2 : decode cX1_copy 2 = .ok (.getfield 18, 3) := by decide +kernel
theorem dX1_copy_5 : decode cX1_copy 5 = .ok (.putfield 18, 3) := by decide +kernel
theorem dX1_copy_8 : decode cX1_copy 8 = .ok (.aload_n 0, 1) := by decide +kernel
theorem dX1_copy_9 : decode cX1_copy 9 = .ok (.aload_n 1, 1) := by decide +kernel
theorem dX1_copy_10 : decode cX1_copy 10 = .ok (.getfield 22, 3) := by decide +kernel
theorem dX1_copy_13 : decode cX1_copy 13 = .ok (.putfield 22, 3) := by decide +kernel
theorem dX1_copy_16 : decode cX1_copy 16 = .ok (.aload_n 0, 1) := by decide +kernel
theorem dX1_copy_17 : decode cX1_copy 17 = .ok (.aload_n 1, 1) := by decide +kernel
theorem dX1_copy_18 : decode cX1_copy 18 = .ok (.getfield 25, 3) := by decide +kernel
theorem dX1_copy_21 : decode cX1_copy 21 = .ok (.putfield 25, 3) := by decide +kernel
theorem dX1_copy_24 : decode cX1_copy 24 = .ok (.aload_n 0, 1) := by decide +kernel
theorem dX1_copy_25 : decode cX1_copy 25 = .ok (.aload_n 1, 1) := by decide +kernel
theorem dX1_copy_26 : decode cX1_copy 26 = .ok (.getfield 28, 3) := by decide +kernel
theorem dX1_copy_29 : decode cX1_copy 29 = .ok (.putfield 28, 3) := by decide +kernel
theorem dX1_copy_32 : decode cX1_copy 32 = .ok (.aload_n 1, 1) := by decide +kernel
theorem dX1_copy_33 : decode cX1_copy 33 = .ok (.getfield 9, 3) := by decide +kernel
theorem dX1_copy_36 : decode cX1_copy 36 = .ok (.iconst 0, 1) := by decide +kernel
theorem dX1_copy_37 : decode cX1_copy 37 = .ok (.aload_n 0, 1) := by decide +kernel
theorem dX1_copy_38 : decode cX1_copy 38 = .ok (.getfield 9, 3) := by decide +kernel
theorem dX1_copy_41 : decode cX1_copy 41 = .ok (.iconst 0, 1) := by decide +kernel
theorem dX1_copy_42 : decode cX1_copy 42 = .ok (.bipush 16, 2) := by decide +kernel
theorem dX1_copy_44 : decode cX1_copy 44 = .ok (.invokestatic 31, 3) := by decide +kernel
theorem dX1_copy_47 : decode cX1_copy 47 = .ok (.aload_n 1, 1) := by decide +kernel
theorem dX1_copy_48 : decode cX1_copy 48 = .ok (.getfield 15, 3) := by decide +kernel
theorem dX1_copy_51 : decode cX1_copy 51 = .ok (.iconst 0, 1) := by decide +kernel
theorem dX1_copy_52 : decode cX1_copy 52 = .ok (.aload_n 0, 1) := by decide +kernel
theorem dX1_copy_53 : decode cX1_copy 53 = .ok (.getfield 15, 3) := by decide +kernel
theorem dX1_copy_56 : decode cX1_copy 56 = .ok (.iconst 0, 1) := by decide +kernel
theorem dX1_copy_57 : decode cX1_copy 57 = .ok (.bipush 16, 2) := by decide +kernel
theorem dX1_copy_59 : decode cX1_copy 59 = .ok (.invokestatic 31, 3) := by decide +kernel
theorem dX1_copy_62 : decode cX1_copy 62 = .ok (.return_, 1) := by decide +kernel
theorem dX1_follow_0 : decode cX1_follow 0 = .ok (.aload_n 0, 1) := by decide +kernel
theorem dX1_follow_1 : decode cX1_follow 1 = .ok (.aload_n 1, 1) := by decide +kernel
theorem dX1_follow_2 : decode cX1_follow 2 = .ok (.getfield 22, 3) := by decide +kernel
theorem dX1_follow_5 : decode cX1_follow 5 = .ok (.iconst 1, 1) := by decide +kernel
theorem dX1_follow_6 : decode cX1_follow 6 = .ok (.iadd, 1) := by decide +kernel
theorem dX1_follow_7 : decode cX1_follow 7 = .ok (.putfield 22, 3) := by decide +kernel
theorem dX1_follow_10 : decode cX1_follow 10 = .ok (.aload_n 2, 1) := by decide +kernel
theorem dX1_follow_11 : decode cX1_follow 11 = .ok (.aload_n 0, 1) := by decide +kernel
theorem dX1_follow_12 : decode cX1_follow 12 = .ok (.getfield 22, 3) := by decide +kernel
theorem dX1_follow_15 : decode cX1_follow 15 = .ok (.invokevirtual 37, 3) := by decide +kernel
theorem dX1_follow_18 : decode cX1_follow 18 = .ok (.istore_n 3, 1) := by decide +kernel
theorem dX1_follow_19 : decode cX1_follow 19 = .ok (.iconst 0, 1) := by decide +kernel
theorem dX1_follow_20 : decode cX1_follow 20 = .ok (.istore 4, 2) := by decide +kernel
theorem dX1_follow_22 : decode cX1_follow 22 = .ok (.iconst 0, 1) := by decide +kernel
theorem dX1_follow_23 : decode cX1_follow 23 = .ok (.istore 5, 2) := by decide +kernel
theorem dX1_follow_25 : decode cX1_follow 25 = .ok (.iload 5, 2) := by decide +kernel
theorem dX1_follow_27 : decode cX1_follow 27 = .ok (.aload_n 2, 1) := by decide +kernel
theorem dX1_follow_28 : decode cX1_follow 28 = .ok (.getfield 43, 3) := by decide +kernel
theorem dX1_follow_31 : decode cX1_follow 31 = .ok (.if_icmp .ge 94, 3) := by decide +kernel
theorem dX1_follow_34 : decode cX1_follow 34 = .ok (.aload_n 2, 1) := by decide +kernel
theorem dX1_follow_35 : decode cX1_follow 35 = .ok (.iload 5, 2) := by decide +kernel
theorem dX1_follow_37 : decode cX1_follow 37 = .ok (.invokevirtual 46, 3) := by decide +kernel
theorem dX1_follow_40 : decode cX1_follow 40 = .ok (.ifCond .ne 20, 3) := by decide +kernel
theorem dX1_follow_43 : decode cX1_follow 43 = .ok (.aload_n 0, 1) := by decide +kernel
theorem dX1_follow_44 : decode cX1_follow 44 = .ok (.getfield 9, 3) := by decide +kernel
theorem dX1_follow_47 : decode cX1_follow 47 = .ok (.iload 5, 2) := by decide +kernel
theorem dX1_follow_49 : decode cX1_follow 49 = .ok (.aload_n 0, 1) := by decide +kernel
theorem dX1_follow_50 : decode cX1_follow 50 = .ok (.iload 5, 2) := by decide +kernel
theorem dX1_follow_52 : decode cX1_follow 52 = .ok (.aload_n 2, 1) := by decide +kernel
theorem dX1_follow_53 : decode cX1_follow 53 = .ok (.invokevirtual 50, 3) := by decide +kernel
theorem dX1_follow_56 : decode cX1_follow 56 = .ok (.iastore, 1) := by decide +kernel
theorem dX1_follow_57 : decode cX1_follow 57 = .ok (.goto 62, 3) := by decide +kernel
theorem dX1_follow_60 : decode cX1_follow 60 = .ok (.iload_n 3, 1) := by decide +kernel
theorem dX1_follow_61 : decode cX1_follow 61 = .ok (.aload_n 2, 1) := by decide +kernel
theorem dX1_follow_62 : decode cX1_follow 62 = .ok (.getfield 54, 3) := by decide +kernel
theorem dX1_follow_65 : decode cX1_follow 65 = .ok (.iload 5, 2) := by decide +kernel
theorem dX1_follow_67 : decode cX1_follow 67 = .ok (.invokestatic 57, 3) := by decide +kernel
theorem dX1_follow_70 : decode cX1_follow 70 = .ok (.invokestatic 61, 3) := by decide +kernel
theorem dX1_follow_73 : decode cX1_follow 73 = .ok (.ifCond .eq 46, 3) := by decide +kernel
theorem dX1_follow_76 : decode cX1_follow 76 = .ok (.aload_n 0, 1) := by decide +kernel
theorem dX1_follow_77 : decode cX1_follow 77 = .ok (.getfield 9, 3) := by decide +kernel
theorem dX1_follow_80 : decode cX1_follow 80 = .ok (.iload 5, 2) := by decide +kernel
theorem dX1_follow_82 : decode cX1_follow 82 = .ok (.aload_n 0, 1) := by decide +kernel
theorem dX1_follow_83 : decode cX1_follow 83 = .ok (.iload 5, 2) := by decide +kernel
theorem dX1_follow_85 : decode cX1_follow 85 = .ok (.aload_n 1, 1) := by decide +kernel
theorem dX1_follow_86 : decode cX1_follow 86 = .ok (.aload_n 2, 1) := by decide +kernel
theorem dX1_follow_87 : decode cX1_follow 87 = .ok (.iload 4, 2) := by decide +kernel
theorem dX1_follow_89 : decode cX1_follow 89 = .ok (.invokevirtual 65, 3) := by decide +kernel
theorem dX1_follow_92 : decode cX1_follow 92 = .ok (.iastore, 1) := by decide +kernel
theorem dX1_follow_93 : decode cX1_follow 93 = .ok (.aload_n 0, 1) := by decide +kernel
theorem dX1_follow_94 : decode cX1_follow 94 = .ok (.getfield 9, 3) := by decide +kernel
theorem dX1_follow_97 : decode cX1_follow 97 = .ok (.iload 5, 2) := by decide +kernel
theorem dX1_follow_99 : decode cX1_follow 99 = .ok (.iaload, 1) := by decide +kernel
theorem dX1_follow_100 : decode cX1_follow 100 = .ok (.aload_n 1, 1) := by decide +kernel
theorem dX1_follow_101 : decode cX1_follow 101 = .ok (.getfield 9, 3) := by decide +kernel
theorem dX1_follow_104 : decode cX1_follow 104 = .ok (.iload 5, 2) := by decide +kernel
theorem dX1_follow_106 : decode cX1_follow 106 = .ok (.iaload, 1) := by decide +kernel
theorem dX1_follow_107 : decode cX1_follow 107 = .ok (.if_icmp .eq 12, 3) := by decide +kernel
theorem dX1_follow_110 : decode cX1_follow 110 = .ok (.iload 4, 2) := by decide +kernel
theorem dX1_follow_112 : decode cX1_follow 112 = .ok (.iconst 1, 1) := by decide +kernel
theorem dX1_follow_113 : decode cX1_follow 113 = .ok (.iload 5, 2) := by decide +kernel
theorem dX1_follow_115 : decode cX1_follow 115 = .ok (.ishl, 1) := by decide +kernel
theorem dX1_follow_116 : decode cX1_follow 116 = .ok (.ior, 1) := by decide +kernel
theorem dX1_follow_117 : decode cX1_follow 117 = .ok (.istore 4, 2) := by decide +kernel
theorem dX1_follow_119 : decode cX1_follow 119 = .ok (.iinc 5 1, 3) := by decide +kernel
theorem dX1_follow_122 : decode cX1_follow 122 = .ok (.goto (-97), 3) := by decide +kernel
theorem dX1_follow_125 : decode cX1_follow 125 = .ok (.return_, 1) := by decide +kernel
theorem dX1_leafValue_0 : decode cX1_leafValue 0 = .ok (.aload_n 3, 1) := by decide +kernel
theorem dX1_leafValue_1 : decode cX1_leafValue 1 = .ok (.iload_n 1, 1) := by decide +kernel
theorem dX1_leafValue_2 : decode cX1_leafValue 2 = .ok (.iconst 0, 1) := by decide +kernel
theorem dX1_leafValue_3 : decode cX1_leafValue 3 = .ok (.invokevirtual 69, 3) := by decide +kernel
theorem dX1_leafValue_6 : decode cX1_leafValue 6 = .ok (.ifCond .eq 12, 3) := by decide +kernel
theorem dX1_leafValue_9 : decode cX1_leafValue 9 = .ok (.aload_n 2, 1) := by decide +kernel
theorem dX1_leafValue_10 : decode cX1_leafValue 10 = .ok (.getfield 15, 3) := by decide +kernel
theorem dX1_leafValue_13 : decode cX1_leafValue 13 = .ok (.iload_n 1, 1) := by decide +kernel
theorem dX1_leafValue_14 : decode cX1_leafValue 14 = .ok (.invokestatic 57, 3) := by decide +kernel
theorem dX1_leafValue_17 : decode cX1_leafValue 17 = .ok (.ireturn, 1) := by decide +kernel
theorem dX1_leafValue_18 : decode cX1_leafValue 18 = .ok (.aload_n 3, 1) := by decide +kernel
theorem dX1_leafValue_19 : decode cX1_leafValue 19 = .ok (.getfield 72, 3) := by decide +kernel
theorem dX1_leafValue_22 : decode cX1_leafValue 22 = .ok (.iload_n 1, 1) := by decide +kernel
theorem dX1_leafValue_23 : decode cX1_leafValue 23 = .ok (.invokestatic 57, 3) := by decide +kernel
theorem dX1_leafValue_26 : decode cX1_leafValue 26 = .ok (.iload 4, 2) := by decide +kernel
theorem dX1_leafValue_28 : decode cX1_leafValue 28 = .ok (.iand, 1) := by decide +kernel
theorem dX1_leafValue_29 : decode cX1_leafValue 29 = .ok (.ifCond .eq 15, 3) := by decide +kernel
theorem dX1_leafValue_32 : decode cX1_leafValue 32 = .ok (.aload_n 0, 1) := by decide +kernel
theorem dX1_leafValue_33 : decode cX1_leafValue 33 = .ok (.dup, 1) := by decide +kernel
theorem dX1_leafValue_34 : decode cX1_leafValue 34 = .ok (.getfield 25, 3) := by decide +kernel
theorem dX1_leafValue_37 : decode cX1_leafValue 37 = .ok (.iconst 1, 1) := by decide +kernel
theorem dX1_leafValue_38 : decode cX1_leafValue 38 = .ok (.iadd, 1) := by decide +kernel
theorem dX1_leafValue_39 : decode cX1_leafValue 39 = .ok (.putfield 25, 3) := by decide +kernel
theorem dX1_leafValue_42 : decode cX1_leafValue 42 = .ok (.iconst 2, 1) := by decide +kernel
theorem dX1_leafValue_43 : decode cX1_leafValue 43 = .ok (.ireturn, 1) := by decide +kernel
theorem dX1_leafValue_44 : decode cX1_leafValue 44 = .ok (.aload_n 3, 1) := by decide +kernel
theorem dX1_leafValue_45 : decode cX1_leafValue 45 = .ok (.iload_n 1, 1) := by decide +kernel
theorem dX1_leafValue_46 : decode cX1_leafValue 46 = .ok (.iconst 0, 1) := by decide +kernel
theorem dX1_leafValue_47 : decode cX1_leafValue 47 = .ok (.invokevirtual 75, 3) := by decide +kernel
theorem dX1_leafValue_50 : decode cX1_leafValue 50 = .ok (.istore 5, 2) := by decide +kernel
theorem dX1_leafValue_52 : decode cX1_leafValue 52 = .ok (.aload_n 2, 1) := by decide +kernel
theorem dX1_leafValue_53 : decode cX1_leafValue 53 = .ok (.getfield 9, 3) := by decide +kernel
theorem dX1_leafValue_56 : decode cX1_leafValue 56 = .ok (.iload 5, 2) := by decide +kernel
theorem dX1_leafValue_58 : decode cX1_leafValue 58 = .ok (.invokestatic 57, 3) := by decide +kernel
theorem dX1_leafValue_61 : decode cX1_leafValue 61 = .ok (.istore 6, 2) := by decide +kernel
theorem dX1_leafValue_63 : decode cX1_leafValue 63 = .ok (.iload 6, 2) := by decide +kernel
theorem dX1_leafValue_65 : decode cX1_leafValue 65 = .ok (.iconst 2, 1) := by decide +kernel
theorem dX1_leafValue_66 : decode cX1_leafValue 66 = .ok (.if_icmp .ne 61, 3) := by decide +kernel
theorem dX1_leafValue_69 : decode cX1_leafValue 69 = .ok (.aload_n 3, 1) := by decide +kernel
theorem dX1_leafValue_70 : decode cX1_leafValue 70 = .ok (.iload 5, 2) := by decide +kernel
theorem dX1_leafValue_72 : decode cX1_leafValue 72 = .ok (.invokevirtual 79, 3) := by decide +kernel
theorem dX1_leafValue_75 : decode cX1_leafValue 75 = .ok (.ifCond .eq 52, 3) := by decide +kernel
theorem dX1_leafValue_78 : decode cX1_leafValue 78 = .ok (.aload_n 3, 1) := by decide +kernel
theorem dX1_leafValue_79 : decode cX1_leafValue 79 = .ok (.getfield 54, 3) := by decide +kernel
theorem dX1_leafValue_82 : decode cX1_leafValue 82 = .ok (.iload 5, 2) := by decide +kernel
theorem dX1_leafValue_84 : decode cX1_leafValue 84 = .ok (.invokestatic 57, 3) := by decide +kernel
theorem dX1_leafValue_87 : decode cX1_leafValue 87 = .ok (.aload_n 3, 1) := by decide +kernel
theorem dX1_leafValue_88 : decode cX1_leafValue 88 = .ok (.getfield 54, 3) := by decide +kernel
theorem dX1_leafValue_91 : decode cX1_leafValue 91 = .ok (.iload_n 1, 1) := by decide +kernel
theorem dX1_leafValue_92 : decode cX1_leafValue 92 = .ok (.invokestatic 57, 3) := by decide +kernel
theorem dX1_leafValue_95 : decode cX1_leafValue 95 = .ok (.if_icmp .ne 32, 3) := by decide +kernel
theorem dX1_leafValue_98 : decode cX1_leafValue 98 = .ok (.aload_n 2, 1) := by decide +kernel
theorem dX1_leafValue_99 : decode cX1_leafValue 99 = .ok (.getfield 9, 3) := by decide +kernel
theorem dX1_leafValue_102 : decode cX1_leafValue 102 = .ok (.aload_n 3, 1) := by decide +kernel
theorem dX1_leafValue_103 : decode cX1_leafValue 103 = .ok (.iload 5, 2) := by decide +kernel
theorem dX1_leafValue_105 : decode cX1_leafValue 105 = .ok (.iconst 0, 1) := by decide +kernel
theorem dX1_leafValue_106 : decode cX1_leafValue 106 = .ok (.invokevirtual 75, 3) := by decide +kernel
theorem dX1_leafValue_109 : decode cX1_leafValue 109 = .ok (.invokestatic 57, 3) := by decide +kernel
theorem dX1_leafValue_112 : decode cX1_leafValue 112 = .ok (.istore 7, 2) := by decide +kernel
theorem dX1_leafValue_114 : decode cX1_leafValue 114 = .ok (.iload 7, 2) := by decide +kernel
theorem dX1_leafValue_116 : decode cX1_leafValue 116 = .ok (.iconst 2, 1) := by decide +kernel
theorem dX1_leafValue_117 : decode cX1_leafValue 117 = .ok (.if_icmp .ne 7, 3) := by decide +kernel
theorem dX1_leafValue_120 : decode cX1_leafValue 120 = .ok (.iconst 0, 1) := by decide +kernel
theorem dX1_leafValue_121 : decode cX1_leafValue 121 = .ok (.goto 5, 3) := by decide +kernel
theorem dX1_leafValue_124 : decode cX1_leafValue 124 = .ok (.iload 7, 2) := by decide +kernel
theorem dX1_leafValue_126 : decode cX1_leafValue 126 = .ok (.ireturn, 1) := by decide +kernel
theorem dX1_leafValue_127 : decode cX1_leafValue 127 = .ok (.iload 6, 2) := by decide +kernel
theorem dX1_leafValue_129 : decode cX1_leafValue 129 = .ok (.iconst 2, 1) := by decide +kernel
theorem dX1_leafValue_130 : decode cX1_leafValue 130 = .ok (.if_icmp .ne 13, 3) := by decide +kernel
theorem dX1_leafValue_133 : decode cX1_leafValue 133 = .ok (.aload_n 0, 1) := by decide +kernel
theorem dX1_leafValue_134 : decode cX1_leafValue 134 = .ok (.dup, 1) := by decide +kernel
theorem dX1_leafValue_135 : decode cX1_leafValue 135 = .ok (.getfield 28, 3) := by decide +kernel
theorem dX1_leafValue_138 : decode cX1_leafValue 138 = .ok (.iconst 1, 1) := by decide +kernel
theorem dX1_leafValue_139 : decode cX1_leafValue 139 = .ok (.iadd, 1) := by decide +kernel
theorem dX1_leafValue_140 : decode cX1_leafValue 140 = .ok (.putfield 28, 3) := by decide +kernel
theorem dX1_leafValue_143 : decode cX1_leafValue 143 = .ok (.iload 6, 2) := by decide +kernel
theorem dX1_leafValue_145 : decode cX1_leafValue 145 = .ok (.ireturn, 1) := by decide +kernel
theorem dX1_gateValue_0 : decode cX1_gateValue 0 = .ok (.aload_n 0, 1) := by decide +kernel
theorem dX1_gateValue_1 : decode cX1_gateValue 1 = .ok (.getfield 9, 3) := by decide +kernel
theorem dX1_gateValue_4 : decode cX1_gateValue 4 = .ok (.aload_n 2, 1) := by decide +kernel
theorem dX1_gateValue_5 : decode cX1_gateValue 5 = .ok (.iload_n 1, 1) := by decide +kernel
theorem dX1_gateValue_6 : decode cX1_gateValue 6 = .ok (.iconst 0, 1) := by decide +kernel
theorem dX1_gateValue_7 : decode cX1_gateValue 7 = .ok (.invokevirtual 75, 3) := by decide +kernel
theorem dX1_gateValue_10 : decode cX1_gateValue 10 = .ok (.invokestatic 57, 3) := by decide +kernel
theorem dX1_gateValue_13 : decode cX1_gateValue 13 = .ok (.istore_n 3, 1) := by decide +kernel
theorem dX1_gateValue_14 : decode cX1_gateValue 14 = .ok (.aload_n 0, 1) := by decide +kernel
theorem dX1_gateValue_15 : decode cX1_gateValue 15 = .ok (.getfield 9, 3) := by decide +kernel
theorem dX1_gateValue_18 : decode cX1_gateValue 18 = .ok (.aload_n 2, 1) := by decide +kernel
theorem dX1_gateValue_19 : decode cX1_gateValue 19 = .ok (.iload_n 1, 1) := by decide +kernel
theorem dX1_gateValue_20 : decode cX1_gateValue 20 = .ok (.iconst 1, 1) := by decide +kernel
theorem dX1_gateValue_21 : decode cX1_gateValue 21 = .ok (.invokevirtual 75, 3) := by decide +kernel
theorem dX1_gateValue_24 : decode cX1_gateValue 24 = .ok (.invokestatic 57, 3) := by decide +kernel
theorem dX1_gateValue_27 : decode cX1_gateValue 27 = .ok (.istore 4, 2) := by decide +kernel
theorem dX1_gateValue_29 : decode cX1_gateValue 29 = .ok (.aload_n 2, 1) := by decide +kernel
theorem dX1_gateValue_30 : decode cX1_gateValue 30 = .ok (.getfield 82, 3) := by decide +kernel
theorem dX1_gateValue_33 : decode cX1_gateValue 33 = .ok (.iload_n 1, 1) := by decide +kernel
theorem dX1_gateValue_34 : decode cX1_gateValue 34 = .ok (.invokestatic 57, 3) := by decide +kernel
theorem dX1_gateValue_37 : decode cX1_gateValue 37 = .ok (.tableswitch 63 2 4 #[27, 35, 43], 27) := by decide +kernel
theorem dX1_gateValue_64 : decode cX1_gateValue 64 = .ok (.iconst 0, 1) := by decide +kernel
theorem dX1_gateValue_65 : decode cX1_gateValue 65 = .ok (.iload_n 3, 1) := by decide +kernel
theorem dX1_gateValue_66 : decode cX1_gateValue 66 = .ok (.iload 4, 2) := by decide +kernel
theorem dX1_gateValue_68 : decode cX1_gateValue 68 = .ok (.invokestatic 85, 3) := by decide +kernel
theorem dX1_gateValue_71 : decode cX1_gateValue 71 = .ok (.ireturn, 1) := by decide +kernel
theorem dX1_gateValue_72 : decode cX1_gateValue 72 = .ok (.iconst 1, 1) := by decide +kernel
theorem dX1_gateValue_73 : decode cX1_gateValue 73 = .ok (.iload_n 3, 1) := by decide +kernel
theorem dX1_gateValue_74 : decode cX1_gateValue 74 = .ok (.iload 4, 2) := by decide +kernel
theorem dX1_gateValue_76 : decode cX1_gateValue 76 = .ok (.invokestatic 85, 3) := by decide +kernel
theorem dX1_gateValue_79 : decode cX1_gateValue 79 = .ok (.ireturn, 1) := by decide +kernel
theorem dX1_gateValue_80 : decode cX1_gateValue 80 = .ok (.iload_n 3, 1) := by decide +kernel
theorem dX1_gateValue_81 : decode cX1_gateValue 81 = .ok (.iconst 2, 1) := by decide +kernel
theorem dX1_gateValue_82 : decode cX1_gateValue 82 = .ok (.if_icmp .eq 9, 3) := by decide +kernel
theorem dX1_gateValue_85 : decode cX1_gateValue 85 = .ok (.iload 4, 2) := by decide +kernel
theorem dX1_gateValue_87 : decode cX1_gateValue 87 = .ok (.iconst 2, 1) := by decide +kernel
theorem dX1_gateValue_88 : decode cX1_gateValue 88 = .ok (.if_icmp .ne 7, 3) := by decide +kernel
theorem dX1_gateValue_91 : decode cX1_gateValue 91 = .ok (.iconst 2, 1) := by decide +kernel
theorem dX1_gateValue_92 : decode cX1_gateValue 92 = .ok (.goto 7, 3) := by decide +kernel
theorem dX1_gateValue_95 : decode cX1_gateValue 95 = .ok (.iload_n 3, 1) := by decide +kernel
theorem dX1_gateValue_96 : decode cX1_gateValue 96 = .ok (.iload 4, 2) := by decide +kernel
theorem dX1_gateValue_98 : decode cX1_gateValue 98 = .ok (.ixor, 1) := by decide +kernel
theorem dX1_gateValue_99 : decode cX1_gateValue 99 = .ok (.ireturn, 1) := by decide +kernel
theorem dX1_gateValue_100 : decode cX1_gateValue 100 = .ok (.iload_n 3, 1) := by decide +kernel
theorem dX1_gateValue_101 : decode cX1_gateValue 101 = .ok (.iload 4, 2) := by decide +kernel
theorem dX1_gateValue_103 : decode cX1_gateValue 103 = .ok (.aload_n 0, 1) := by decide +kernel
theorem dX1_gateValue_104 : decode cX1_gateValue 104 = .ok (.getfield 9, 3) := by decide +kernel
theorem dX1_gateValue_107 : decode cX1_gateValue 107 = .ok (.aload_n 2, 1) := by decide +kernel
theorem dX1_gateValue_108 : decode cX1_gateValue 108 = .ok (.iload_n 1, 1) := by decide +kernel
theorem dX1_gateValue_109 : decode cX1_gateValue 109 = .ok (.iconst 2, 1) := by decide +kernel
theorem dX1_gateValue_110 : decode cX1_gateValue 110 = .ok (.invokevirtual 75, 3) := by decide +kernel
theorem dX1_gateValue_113 : decode cX1_gateValue 113 = .ok (.invokestatic 57, 3) := by decide +kernel
theorem dX1_gateValue_116 : decode cX1_gateValue 116 = .ok (.invokestatic 89, 3) := by decide +kernel
theorem dX1_gateValue_119 : decode cX1_gateValue 119 = .ok (.ireturn, 1) := by decide +kernel
theorem dX1_ruledBy_0 : decode cX1_ruledBy 0 = .ok (.iload_n 1, 1) := by decide +kernel
theorem dX1_ruledBy_1 : decode cX1_ruledBy 1 = .ok (.iload_n 0, 1) := by decide +kernel
theorem dX1_ruledBy_2 : decode cX1_ruledBy 2 = .ok (.if_icmp .eq 8, 3) := by decide +kernel
theorem dX1_ruledBy_5 : decode cX1_ruledBy 5 = .ok (.iload_n 2, 1) := by decide +kernel
theorem dX1_ruledBy_6 : decode cX1_ruledBy 6 = .ok (.iload_n 0, 1) := by decide +kernel
theorem dX1_ruledBy_7 : decode cX1_ruledBy 7 = .ok (.if_icmp .ne 5, 3) := by decide +kernel
theorem dX1_ruledBy_10 : decode cX1_ruledBy 10 = .ok (.iload_n 0, 1) := by decide +kernel
theorem dX1_ruledBy_11 : decode cX1_ruledBy 11 = .ok (.ireturn, 1) := by decide +kernel
theorem dX1_ruledBy_12 : decode cX1_ruledBy 12 = .ok (.iload_n 1, 1) := by decide +kernel
theorem dX1_ruledBy_13 : decode cX1_ruledBy 13 = .ok (.iconst 2, 1) := by decide +kernel
theorem dX1_ruledBy_14 : decode cX1_ruledBy 14 = .ok (.if_icmp .eq 8, 3) := by decide +kernel
theorem dX1_ruledBy_17 : decode cX1_ruledBy 17 = .ok (.iload_n 2, 1) := by decide +kernel
theorem dX1_ruledBy_18 : decode cX1_ruledBy 18 = .ok (.iconst 2, 1) := by decide +kernel
theorem dX1_ruledBy_19 : decode cX1_ruledBy 19 = .ok (.if_icmp .ne 7, 3) := by decide +kernel
theorem dX1_ruledBy_22 : decode cX1_ruledBy 22 = .ok (.iconst 2, 1) := by decide +kernel
theorem dX1_ruledBy_23 : decode cX1_ruledBy 23 = .ok (.goto 6, 3) := by decide +kernel
theorem dX1_ruledBy_26 : decode cX1_ruledBy 26 = .ok (.iconst 1, 1) := by decide +kernel
theorem dX1_ruledBy_27 : decode cX1_ruledBy 27 = .ok (.iload_n 0, 1) := by decide +kernel
theorem dX1_ruledBy_28 : decode cX1_ruledBy 28 = .ok (.isub, 1) := by decide +kernel
theorem dX1_ruledBy_29 : decode cX1_ruledBy 29 = .ok (.ireturn, 1) := by decide +kernel
theorem dX1_chosen_0 : decode cX1_chosen 0 = .ok (.iload_n 0, 1) := by decide +kernel
theorem dX1_chosen_1 : decode cX1_chosen 1 = .ok (.iconst 2, 1) := by decide +kernel
theorem dX1_chosen_2 : decode cX1_chosen 2 = .ok (.if_icmp .ne 14, 3) := by decide +kernel
theorem dX1_chosen_5 : decode cX1_chosen 5 = .ok (.iload_n 1, 1) := by decide +kernel
theorem dX1_chosen_6 : decode cX1_chosen 6 = .ok (.iload_n 2, 1) := by decide +kernel
theorem dX1_chosen_7 : decode cX1_chosen 7 = .ok (.if_icmp .ne 7, 3) := by decide +kernel
theorem dX1_chosen_10 : decode cX1_chosen 10 = .ok (.iload_n 1, 1) := by decide +kernel
theorem dX1_chosen_11 : decode cX1_chosen 11 = .ok (.goto 4, 3) := by decide +kernel
theorem dX1_chosen_14 : decode cX1_chosen 14 = .ok (.iconst 2, 1) := by decide +kernel
theorem dX1_chosen_15 : decode cX1_chosen 15 = .ok (.ireturn, 1) := by decide +kernel
theorem dX1_chosen_16 : decode cX1_chosen 16 = .ok (.iload_n 0, 1) := by decide +kernel
theorem dX1_chosen_17 : decode cX1_chosen 17 = .ok (.ifCond .ne 7, 3) := by decide +kernel
theorem dX1_chosen_20 : decode cX1_chosen 20 = .ok (.iload_n 1, 1) := by decide +kernel
theorem dX1_chosen_21 : decode cX1_chosen 21 = .ok (.goto 4, 3) := by decide +kernel
theorem dX1_chosen_24 : decode cX1_chosen 24 = .ok (.iload_n 2, 1) := by decide +kernel
theorem dX1_chosen_25 : decode cX1_chosen 25 = .ok (.ireturn, 1) := by decide +kernel
theorem dX2_init_0 : decode cX2_init 0 = .ok (.aload_n 0, 1) := by decide +kernel
theorem dX2_init_1 : decode cX2_init 1 = .ok (.invokespecial 3, 3) := by decide +kernel
theorem dX2_init_4 : decode cX2_init 4 = .ok (.aload_n 0, 1) := by decide +kernel
theorem dX2_init_5 : decode cX2_init 5 = .ok (.sipush 160, 3) := by decide +kernel
theorem dX2_init_8 : decode cX2_init 8 = .ok (.newarray .char, 2) := by decide +kernel
theorem dX2_init_10 : decode cX2_init 10 = .ok (.putfield 9, 3) := by decide +kernel
theorem dX2_init_13 : decode cX2_init 13 = .ok (.aload_n 0, 1) := by decide +kernel
theorem dX2_init_14 : decode cX2_init 14 = .ok (.iconst 3, 1) := by decide +kernel
theorem dX2_init_15 : decode cX2_init 15 = .ok (.newarray .int, 2) := by decide +kernel
theorem dX2_init_17 : decode cX2_init 17 = .ok (.putfield 15, 3) := by decide +kernel
theorem dX2_init_20 : decode cX2_init 20 = .ok (.return_, 1) := by decide +kernel
theorem dX2_put_0 : decode cX2_put 0 = .ok (.aload_n 0, 1) := by decide +kernel
theorem dX2_put_1 : decode cX2_put 1 = .ok (.getfield 19, 3) := by decide +kernel
theorem dX2_put_4 : decode cX2_put 4 = .ok (.sipush 160, 3) := by decide +kernel
theorem dX2_put_7 : decode cX2_put 7 = .ok (.if_icmp .lt 5, 3) := by decide +kernel
theorem dX2_put_10 : decode cX2_put 10 = .ok (.iconst 0, 1) := by decide +kernel
theorem dX2_put_11 : decode cX2_put 11 = .ok (.ireturn, 1) := by decide +kernel
theorem dX2_put_12 : decode cX2_put 12 = .ok (.aload_n 0, 1) := by decide +kernel
theorem dX2_put_13 : decode cX2_put 13 = .ok (.getfield 9, 3) := by decide +kernel
theorem dX2_put_16 : decode cX2_put 16 = .ok (.aload_n 0, 1) := by decide +kernel
theorem dX2_put_17 : decode cX2_put 17 = .ok (.getfield 19, 3) := by decide +kernel
theorem dX2_put_20 : decode cX2_put 20 = .ok (.iload_n 1, 1) := by decide +kernel
theorem dX2_put_21 : decode cX2_put 21 = .ok (.i2c, 1) := by decide +kernel
theorem dX2_put_22 : decode cX2_put 22 = .ok (.castore, 1) := by decide +kernel
theorem dX2_put_23 : decode cX2_put 23 = .ok (.aload_n 0, 1) := by decide +kernel
theorem dX2_put_24 : decode cX2_put 24 = .ok (.dup, 1) := by decide +kernel
theorem dX2_put_25 : decode cX2_put 25 = .ok (.getfield 19, 3) := by decide +kernel
theorem dX2_put_28 : decode cX2_put 28 = .ok (.iconst 1, 1) := by decide +kernel
theorem dX2_put_29 : decode cX2_put 29 = .ok (.iadd, 1) := by decide +kernel
theorem dX2_put_30 : decode cX2_put 30 = .ok (.putfield 19, 3) := by decide +kernel
theorem dX2_put_33 : decode cX2_put 33 = .ok (.iconst 1, 1) := by decide +kernel
theorem dX2_put_34 : decode cX2_put 34 = .ok (.ireturn, 1) := by decide +kernel
theorem dX2_readInto_0 : decode cX2_readInto 0 = .ok (.aload_n 1, 1) := by decide +kernel
theorem dX2_readInto_1 : decode cX2_readInto 1 = .ok (.invokevirtual 23, 3) := by decide +kernel
theorem dX2_readInto_4 : decode cX2_readInto 4 = .ok (.aload_n 0, 1) := by decide +kernel
theorem dX2_readInto_5 : decode cX2_readInto 5 = .ok (.iconst 0, 1) := by decide +kernel
theorem dX2_readInto_6 : decode cX2_readInto 6 = .ok (.putfield 28, 3) := by decide +kernel
theorem dX2_readInto_9 : decode cX2_readInto 9 = .ok (.iconst 0, 1) := by decide +kernel
theorem dX2_readInto_10 : decode cX2_readInto 10 = .ok (.istore_n 2, 1) := by decide +kernel
theorem dX2_readInto_11 : decode cX2_readInto 11 = .ok (.iload_n 2, 1) := by decide +kernel
theorem dX2_readInto_12 : decode cX2_readInto 12 = .ok (.sipush 160, 3) := by decide +kernel
theorem dX2_readInto_15 : decode cX2_readInto 15 = .ok (.if_icmp .gt 39, 3) := by decide +kernel
theorem dX2_readInto_18 : decode cX2_readInto 18 = .ok (.aload_n 0, 1) := by decide +kernel
theorem dX2_readInto_19 : decode cX2_readInto 19 = .ok (.invokevirtual 31, 3) := by decide +kernel
theorem dX2_readInto_22 : decode cX2_readInto 22 = .ok (.aload_n 0, 1) := by decide +kernel
theorem dX2_readInto_23 : decode cX2_readInto 23 = .ok (.getfield 34, 3) := by decide +kernel
theorem dX2_readInto_26 : decode cX2_readInto 26 = .ok (.bipush (-2), 2) := by decide +kernel
theorem dX2_readInto_28 : decode cX2_readInto 28 = .ok (.if_icmp .ne 9, 3) := by decide +kernel
theorem dX2_readInto_31 : decode cX2_readInto 31 = .ok (.aload_n 1, 1) := by decide +kernel
theorem dX2_readInto_32 : decode cX2_readInto 32 = .ok (.invokevirtual 37, 3) := by decide +kernel
theorem dX2_readInto_35 : decode cX2_readInto 35 = .ok (.iload_n 2, 1) := by decide +kernel
theorem dX2_readInto_36 : decode cX2_readInto 36 = .ok (.ireturn, 1) := by decide +kernel
theorem dX2_readInto_37 : decode cX2_readInto 37 = .ok (.aload_n 0, 1) := by decide +kernel
theorem dX2_readInto_38 : decode cX2_readInto 38 = .ok (.aload_n 1, 1) := by decide +kernel
theorem dX2_readInto_39 : decode cX2_readInto 39 = .ok (.invokevirtual 40, 3) := by decide +kernel
theorem dX2_readInto_42 : decode cX2_readInto 42 = .ok (.ifCond .ne 6, 3) := by decide +kernel
theorem dX2_readInto_45 : decode cX2_readInto 45 = .ok (.goto 9, 3) := by decide +kernel
theorem dX2_readInto_48 : decode cX2_readInto 48 = .ok (.iinc 2 1, 3) := by decide +kernel
theorem dX2_readInto_51 : decode cX2_readInto 51 = .ok (.goto (-40), 3) := by decide +kernel
theorem dX2_readInto_54 : decode cX2_readInto 54 = .ok (.bipush (-10), 2) := by decide +kernel
theorem dX2_readInto_56 : decode cX2_readInto 56 = .ok (.aload_n 0, 1) := by decide +kernel
theorem dX2_readInto_57 : decode cX2_readInto 57 = .ok (.getfield 44, 3) := by decide +kernel
theorem dX2_readInto_60 : decode cX2_readInto 60 = .ok (.isub, 1) := by decide +kernel
theorem dX2_readInto_61 : decode cX2_readInto 61 = .ok (.ireturn, 1) := by decide +kernel
theorem dX2_readItem_0 : decode cX2_readItem 0 = .ok (.aload_n 0, 1) := by decide +kernel
theorem dX2_readItem_1 : decode cX2_readItem 1 = .ok (.getfield 34, 3) := by decide +kernel
theorem dX2_readItem_4 : decode cX2_readItem 4 = .ok (.istore_n 2, 1) := by decide +kernel
theorem dX2_readItem_5 : decode cX2_readItem 5 = .ok (.iload_n 2, 1) := by decide +kernel
theorem dX2_readItem_6 : decode cX2_readItem 6 = .ok (.invokestatic 47, 3) := by decide +kernel
theorem dX2_readItem_9 : decode cX2_readItem 9 = .ok (.astore_n 3, 1) := by decide +kernel
theorem dX2_readItem_10 : decode cX2_readItem 10 = .ok (.aload_n 3, 1) := by decide +kernel
