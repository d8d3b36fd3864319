theorem dX6_change_37 : decode cX6_change 37 = .ok (.iconst 2, 1) := by decide +kernel
theorem dX6_change_38 : decode cX6_change 38 = .ok (.iaload, 1) := by decide +kernel
theorem dX6_change_39 : decode cX6_change 39 = .ok (.istore_n 3, 1) := by decide +kernel
theorem dX6_change_40 : decode cX6_change 40 = .ok (.aload_n 0, 1) := by decide +kernel
theorem dX6_change_41 : decode cX6_change 41 = .ok (.iconst 0, 1) := by decide +kernel
theorem dX6_change_42 : decode cX6_change 42 = .ok (.aload_n 0, 1) := by decide +kernel
theorem dX6_change_43 : decode cX6_change 43 = .ok (.getfield 16, 3) := by decide +kernel
theorem dX6_change_46 : decode cX6_change 46 = .ok (.invokevirtual 135, 3) := by decide +kernel
theorem dX6_change_49 : decode cX6_change 49 = .ok (.iconst 0, 1) := by decide +kernel
theorem dX6_change_50 : decode cX6_change 50 = .ok (.istore 4, 2) := by decide +kernel
theorem dX6_change_52 : decode cX6_change 52 = .ok (.iload 4, 2) := by decide +kernel
theorem dX6_change_54 : decode cX6_change 54 = .ok (.aload_n 0, 1) := by decide +kernel
theorem dX6_change_55 : decode cX6_change 55 = .ok (.getfield 7, 3) := by decide +kernel
theorem dX6_change_58 : decode cX6_change 58 = .ok (.bipush 6, 2) := by decide +kernel
theorem dX6_change_60 : decode cX6_change 60 = .ok (.iaload, 1) := by decide +kernel
theorem dX6_change_61 : decode cX6_change 61 = .ok (.if_icmp .ge 73, 3) := by decide +kernel
theorem dX6_change_64 : decode cX6_change 64 = .ok (.aload_n 0, 1) := by decide +kernel
theorem dX6_change_65 : decode cX6_change 65 = .ok (.iload 4, 2) := by decide +kernel
theorem dX6_change_67 : decode cX6_change 67 = .ok (.iconst 1, 1) := by decide +kernel
theorem dX6_change_68 : decode cX6_change 68 = .ok (.aload_n 0, 1) := by decide +kernel
theorem dX6_change_69 : decode cX6_change 69 = .ok (.iload 4, 2) := by decide +kernel
theorem dX6_change_71 : decode cX6_change 71 = .ok (.iconst 1, 1) := by decide +kernel
theorem dX6_change_72 : decode cX6_change 72 = .ok (.invokevirtual 60, 3) := by decide +kernel
theorem dX6_change_75 : decode cX6_change 75 = .ok (.isub, 1) := by decide +kernel
theorem dX6_change_76 : decode cX6_change 76 = .ok (.invokevirtual 93, 3) := by decide +kernel
theorem dX6_change_79 : decode cX6_change 79 = .ok (.pop, 1) := by decide +kernel
theorem dX6_change_80 : decode cX6_change 80 = .ok (.aload_n 0, 1) := by decide +kernel
theorem dX6_change_81 : decode cX6_change 81 = .ok (.iload_n 1, 1) := by decide +kernel
theorem dX6_change_82 : decode cX6_change 82 = .ok (.invokevirtual 132, 3) := by decide +kernel
theorem dX6_change_85 : decode cX6_change 85 = .ok (.aload_n 0, 1) := by decide +kernel
theorem dX6_change_86 : decode cX6_change 86 = .ok (.getfield 7, 3) := by decide +kernel
theorem dX6_change_89 : decode cX6_change 89 = .ok (.iconst 2, 1) := by decide +kernel
theorem dX6_change_90 : decode cX6_change 90 = .ok (.iaload, 1) := by decide +kernel
theorem dX6_change_91 : decode cX6_change 91 = .ok (.istore 5, 2) := by decide +kernel
theorem dX6_change_93 : decode cX6_change 93 = .ok (.aload_n 0, 1) := by decide +kernel
theorem dX6_change_94 : decode cX6_change 94 = .ok (.iconst 0, 1) := by decide +kernel
theorem dX6_change_95 : decode cX6_change 95 = .ok (.aload_n 0, 1) := by decide +kernel
theorem dX6_change_96 : decode cX6_change 96 = .ok (.getfield 16, 3) := by decide +kernel
theorem dX6_change_99 : decode cX6_change 99 = .ok (.invokevirtual 135, 3) := by decide +kernel
theorem dX6_change_102 : decode cX6_change 102 = .ok (.iload 5, 2) := by decide +kernel
theorem dX6_change_104 : decode cX6_change 104 = .ok (.iload_n 3, 1) := by decide +kernel
theorem dX6_change_105 : decode cX6_change 105 = .ok (.if_icmp .le 8, 3) := by decide +kernel
theorem dX6_change_108 : decode cX6_change 108 = .ok (.iload 4, 2) := by decide +kernel
theorem dX6_change_110 : decode cX6_change 110 = .ok (.goto 4, 3) := by decide +kernel
theorem dX6_change_113 : decode cX6_change 113 = .ok (.iload_n 2, 1) := by decide +kernel
theorem dX6_change_114 : decode cX6_change 114 = .ok (.istore_n 2, 1) := by decide +kernel
theorem dX6_change_115 : decode cX6_change 115 = .ok (.iload 5, 2) := by decide +kernel
theorem dX6_change_117 : decode cX6_change 117 = .ok (.iload_n 3, 1) := by decide +kernel
theorem dX6_change_118 : decode cX6_change 118 = .ok (.if_icmp .le 8, 3) := by decide +kernel
theorem dX6_change_121 : decode cX6_change 121 = .ok (.iload 5, 2) := by decide +kernel
theorem dX6_change_123 : decode cX6_change 123 = .ok (.goto 4, 3) := by decide +kernel
theorem dX6_change_126 : decode cX6_change 126 = .ok (.iload_n 3, 1) := by decide +kernel
theorem dX6_change_127 : decode cX6_change 127 = .ok (.istore_n 3, 1) := by decide +kernel
theorem dX6_change_128 : decode cX6_change 128 = .ok (.iinc 4 1, 3) := by decide +kernel
theorem dX6_change_131 : decode cX6_change 131 = .ok (.goto (-79), 3) := by decide +kernel
theorem dX6_change_134 : decode cX6_change 134 = .ok (.iload_n 2, 1) := by decide +kernel
theorem dX6_change_135 : decode cX6_change 135 = .ok (.ifCond .ge 12, 3) := by decide +kernel
theorem dX6_change_138 : decode cX6_change 138 = .ok (.aload_n 0, 1) := by decide +kernel
theorem dX6_change_139 : decode cX6_change 139 = .ok (.ldc 142, 2) := by decide +kernel
theorem dX6_change_141 : decode cX6_change 141 = .ok (.invokevirtual 53, 3) := by decide +kernel
theorem dX6_change_144 : decode cX6_change 144 = .ok (.goto 4, 3) := by decide +kernel
theorem dX6_change_147 : decode cX6_change 147 = .ok (.iload_n 2, 1) := by decide +kernel
theorem dX6_change_148 : decode cX6_change 148 = .ok (.ireturn, 1) := by decide +kernel
theorem dX6_heard_0 : decode cX6_heard 0 = .ok (.iload_n 1, 1) := by decide +kernel
theorem dX6_heard_1 : decode cX6_heard 1 = .ok (.iconst 0, 1) := by decide +kernel
theorem dX6_heard_2 : decode cX6_heard 2 = .ok (.bipush 8, 2) := by decide +kernel
theorem dX6_heard_4 : decode cX6_heard 4 = .ok (.invokestatic 45, 3) := by decide +kernel
theorem dX6_heard_7 : decode cX6_heard 7 = .ok (.ifCond .eq 14, 3) := by decide +kernel
theorem dX6_heard_10 : decode cX6_heard 10 = .ok (.iload_n 2, 1) := by decide +kernel
theorem dX6_heard_11 : decode cX6_heard 11 = .ok (.iconst 0, 1) := by decide +kernel
theorem dX6_heard_12 : decode cX6_heard 12 = .ok (.sipush 200, 3) := by decide +kernel
theorem dX6_heard_15 : decode cX6_heard 15 = .ok (.invokestatic 45, 3) := by decide +kernel
theorem dX6_heard_18 : decode cX6_heard 18 = .ok (.ifCond .ne 10, 3) := by decide +kernel
theorem dX6_heard_21 : decode cX6_heard 21 = .ok (.aload_n 0, 1) := by decide +kernel
theorem dX6_heard_22 : decode cX6_heard 22 = .ok (.ldc 44, 2) := by decide +kernel
theorem dX6_heard_24 : decode cX6_heard 24 = .ok (.invokevirtual 53, 3) := by decide +kernel
theorem dX6_heard_27 : decode cX6_heard 27 = .ok (.ireturn, 1) := by decide +kernel
theorem dX6_heard_28 : decode cX6_heard 28 = .ok (.iconst 0, 1) := by decide +kernel
theorem dX6_heard_29 : decode cX6_heard 29 = .ok (.istore_n 3, 1) := by decide +kernel
theorem dX6_heard_30 : decode cX6_heard 30 = .ok (.aload_n 0, 1) := by decide +kernel
theorem dX6_heard_31 : decode cX6_heard 31 = .ok (.iconst 1, 1) := by decide +kernel
theorem dX6_heard_32 : decode cX6_heard 32 = .ok (.aload_n 0, 1) := by decide +kernel
theorem dX6_heard_33 : decode cX6_heard 33 = .ok (.getfield 16, 3) := by decide +kernel
theorem dX6_heard_36 : decode cX6_heard 36 = .ok (.invokevirtual 135, 3) := by decide +kernel
theorem dX6_heard_39 : decode cX6_heard 39 = .ok (.aload_n 0, 1) := by decide +kernel
theorem dX6_heard_40 : decode cX6_heard 40 = .ok (.iload_n 2, 1) := by decide +kernel
theorem dX6_heard_41 : decode cX6_heard 41 = .ok (.invokevirtual 132, 3) := by decide +kernel
theorem dX6_heard_44 : decode cX6_heard 44 = .ok (.iconst 0, 1) := by decide +kernel
theorem dX6_heard_45 : decode cX6_heard 45 = .ok (.istore 4, 2) := by decide +kernel
theorem dX6_heard_47 : decode cX6_heard 47 = .ok (.iload 4, 2) := by decide +kernel
theorem dX6_heard_49 : decode cX6_heard 49 = .ok (.aload_n 0, 1) := by decide +kernel
theorem dX6_heard_50 : decode cX6_heard 50 = .ok (.getfield 7, 3) := by decide +kernel
theorem dX6_heard_53 : decode cX6_heard 53 = .ok (.bipush 6, 2) := by decide +kernel
theorem dX6_heard_55 : decode cX6_heard 55 = .ok (.iaload, 1) := by decide +kernel
theorem dX6_heard_56 : decode cX6_heard 56 = .ok (.if_icmp .ge 23, 3) := by decide +kernel
theorem dX6_heard_59 : decode cX6_heard 59 = .ok (.iload_n 3, 1) := by decide +kernel
theorem dX6_heard_60 : decode cX6_heard 60 = .ok (.aload_n 0, 1) := by decide +kernel
theorem dX6_heard_61 : decode cX6_heard 61 = .ok (.iload 4, 2) := by decide +kernel
theorem dX6_heard_63 : decode cX6_heard 63 = .ok (.iconst 3, 1) := by decide +kernel
theorem dX6_heard_64 : decode cX6_heard 64 = .ok (.invokevirtual 60, 3) := by decide +kernel
theorem dX6_heard_67 : decode cX6_heard 67 = .ok (.iload_n 1, 1) := by decide +kernel
theorem dX6_heard_68 : decode cX6_heard 68 = .ok (.ishr, 1) := by decide +kernel
theorem dX6_heard_69 : decode cX6_heard 69 = .ok (.iconst 1, 1) := by decide +kernel
theorem dX6_heard_70 : decode cX6_heard 70 = .ok (.iand, 1) := by decide +kernel
theorem dX6_heard_71 : decode cX6_heard 71 = .ok (.iadd, 1) := by decide +kernel
theorem dX6_heard_72 : decode cX6_heard 72 = .ok (.istore_n 3, 1) := by decide +kernel
theorem dX6_heard_73 : decode cX6_heard 73 = .ok (.iinc 4 1, 3) := by decide +kernel
theorem dX6_heard_76 : decode cX6_heard 76 = .ok (.goto (-29), 3) := by decide +kernel
theorem dX6_heard_79 : decode cX6_heard 79 = .ok (.aload_n 0, 1) := by decide +kernel
theorem dX6_heard_80 : decode cX6_heard 80 = .ok (.iconst 0, 1) := by decide +kernel
theorem dX6_heard_81 : decode cX6_heard 81 = .ok (.aload_n 0, 1) := by decide +kernel
theorem dX6_heard_82 : decode cX6_heard 82 = .ok (.getfield 16, 3) := by decide +kernel
theorem dX6_heard_85 : decode cX6_heard 85 = .ok (.invokevirtual 135, 3) := by decide +kernel
theorem dX6_heard_88 : decode cX6_heard 88 = .ok (.iload_n 3, 1) := by decide +kernel
theorem dX6_heard_89 : decode cX6_heard 89 = .ok (.ireturn, 1) := by decide +kernel
theorem dX6_feed_0 : decode cX6_feed 0 = .ok (.iload_n 2, 1) := by decide +kernel
theorem dX6_feed_1 : decode cX6_feed 1 = .ok (.iconst 1, 1) := by decide +kernel
theorem dX6_feed_2 : decode cX6_feed 2 = .ok (.iconst 4, 1) := by decide +kernel
theorem dX6_feed_3 : decode cX6_feed 3 = .ok (.invokestatic 45, 3) := by decide +kernel
theorem dX6_feed_6 : decode cX6_feed 6 = .ok (.ifCond .ne 10, 3) := by decide +kernel
theorem dX6_feed_9 : decode cX6_feed 9 = .ok (.aload_n 0, 1) := by decide +kernel
theorem dX6_feed_10 : decode cX6_feed 10 = .ok (.ldc 44, 2) := by decide +kernel
theorem dX6_feed_12 : decode cX6_feed 12 = .ok (.invokevirtual 53, 3) := by decide +kernel
theorem dX6_feed_15 : decode cX6_feed 15 = .ok (.ireturn, 1) := by decide +kernel
theorem dX6_feed_16 : decode cX6_feed 16 = .ok (.aload_n 0, 1) := by decide +kernel
theorem dX6_feed_17 : decode cX6_feed 17 = .ok (.getfield 146, 3) := by decide +kernel
theorem dX6_feed_20 : decode cX6_feed 20 = .ok (.iload_n 2, 1) := by decide +kernel
theorem dX6_feed_21 : decode cX6_feed 21 = .ok (.iadd, 1) := by decide +kernel
theorem dX6_feed_22 : decode cX6_feed 22 = .ok (.bipush 120, 2) := by decide +kernel
theorem dX6_feed_24 : decode cX6_feed 24 = .ok (.if_icmp .le 10, 3) := by decide +kernel
theorem dX6_feed_27 : decode cX6_feed 27 = .ok (.aload_n 0, 1) := by decide +kernel
theorem dX6_feed_28 : decode cX6_feed 28 = .ok (.ldc 77, 2) := by decide +kernel
theorem dX6_feed_30 : decode cX6_feed 30 = .ok (.invokevirtual 53, 3) := by decide +kernel
theorem dX6_feed_33 : decode cX6_feed 33 = .ok (.ireturn, 1) := by decide +kernel
theorem dX6_feed_34 : decode cX6_feed 34 = .ok (.iload_n 2, 1) := by decide +kernel
theorem dX6_feed_35 : decode cX6_feed 35 = .ok (.iconst 1, 1) := by decide +kernel
theorem dX6_feed_36 : decode cX6_feed 36 = .ok (.isub, 1) := by decide +kernel
theorem dX6_feed_37 : decode cX6_feed 37 = .ok (.istore_n 3, 1) := by decide +kernel
theorem dX6_feed_38 : decode cX6_feed 38 = .ok (.iload_n 3, 1) := by decide +kernel
theorem dX6_feed_39 : decode cX6_feed 39 = .ok (.ifCond .lt 38, 3) := by decide +kernel
theorem dX6_feed_42 : decode cX6_feed 42 = .ok (.aload_n 0, 1) := by decide +kernel
theorem dX6_feed_43 : decode cX6_feed 43 = .ok (.getfield 22, 3) := by decide +kernel
theorem dX6_feed_46 : decode cX6_feed 46 = .ok (.aload_n 0, 1) := by decide +kernel
theorem dX6_feed_47 : decode cX6_feed 47 = .ok (.getfield 146, 3) := by decide +kernel
theorem dX6_feed_50 : decode cX6_feed 50 = .ok (.iload_n 1, 1) := by decide +kernel
theorem dX6_feed_51 : decode cX6_feed 51 = .ok (.bipush 8, 2) := by decide +kernel
theorem dX6_feed_53 : decode cX6_feed 53 = .ok (.iload_n 3, 1) := by decide +kernel
theorem dX6_feed_54 : decode cX6_feed 54 = .ok (.imul, 1) := by decide +kernel
theorem dX6_feed_55 : decode cX6_feed 55 = .ok (.ishr, 1) := by decide +kernel
theorem dX6_feed_56 : decode cX6_feed 56 = .ok (.sipush 255, 3) := by decide +kernel
theorem dX6_feed_59 : decode cX6_feed 59 = .ok (.iand, 1) := by decide +kernel
theorem dX6_feed_60 : decode cX6_feed 60 = .ok (.iastore, 1) := by decide +kernel
theorem dX6_feed_61 : decode cX6_feed 61 = .ok (.aload_n 0, 1) := by decide +kernel
theorem dX6_feed_62 : decode cX6_feed 62 = .ok (.dup, 1) := by decide +kernel
theorem dX6_feed_63 : decode cX6_feed 63 = .ok (.getfield 146, 3) := by decide +kernel
theorem dX6_feed_66 : decode cX6_feed 66 = .ok (.iconst 1, 1) := by decide +kernel
theorem dX6_feed_67 : decode cX6_feed 67 = .ok (.iadd, 1) := by decide +kernel
theorem dX6_feed_68 : decode cX6_feed 68 = .ok (.putfield 146, 3) := by decide +kernel
theorem dX6_feed_71 : decode cX6_feed 71 = .ok (.iinc 3 (-1), 3) := by decide +kernel
theorem dX6_feed_74 : decode cX6_feed 74 = .ok (.goto (-36), 3) := by decide +kernel
theorem dX6_feed_77 : decode cX6_feed 77 = .ok (.aload_n 0, 1) := by decide +kernel
theorem dX6_feed_78 : decode cX6_feed 78 = .ok (.getfield 146, 3) := by decide +kernel
theorem dX6_feed_81 : decode cX6_feed 81 = .ok (.ireturn, 1) := by decide +kernel
theorem dX6_wipe_0 : decode cX6_wipe 0 = .ok (.aload_n 0, 1) := by decide +kernel
theorem dX6_wipe_1 : decode cX6_wipe 1 = .ok (.getfield 146, 3) := by decide +kernel
theorem dX6_wipe_4 : decode cX6_wipe 4 = .ok (.istore_n 1, 1) := by decide +kernel
theorem dX6_wipe_5 : decode cX6_wipe 5 = .ok (.aload_n 0, 1) := by decide +kernel
theorem dX6_wipe_6 : decode cX6_wipe 6 = .ok (.iconst 0, 1) := by decide +kernel
theorem dX6_wipe_7 : decode cX6_wipe 7 = .ok (.putfield 146, 3) := by decide +kernel
theorem dX6_wipe_10 : decode cX6_wipe 10 = .ok (.iload_n 1, 1) := by decide +kernel
theorem dX6_wipe_11 : decode cX6_wipe 11 = .ok (.ireturn, 1) := by decide +kernel
theorem dX6_byteAt_0 : decode cX6_byteAt 0 = .ok (.iload_n 1, 1) := by decide +kernel
theorem dX6_byteAt_1 : decode cX6_byteAt 1 = .ok (.aload_n 0, 1) := by decide +kernel
theorem dX6_byteAt_2 : decode cX6_byteAt 2 = .ok (.getfield 146, 3) := by decide +kernel
theorem dX6_byteAt_5 : decode cX6_byteAt 5 = .ok (.if_icmp .ge 12, 3) := by decide +kernel
theorem dX6_byteAt_8 : decode cX6_byteAt 8 = .ok (.aload_n 0, 1) := by decide +kernel
theorem dX6_byteAt_9 : decode cX6_byteAt 9 = .ok (.getfield 22, 3) := by decide +kernel
theorem dX6_byteAt_12 : decode cX6_byteAt 12 = .ok (.iload_n 1, 1) := by decide +kernel
theorem dX6_byteAt_13 : decode cX6_byteAt 13 = .ok (.iaload, 1) := by decide +kernel
theorem dX6_byteAt_14 : decode cX6_byteAt 14 = .ok (.goto 4, 3) := by decide +kernel
theorem dX6_byteAt_17 : decode cX6_byteAt 17 = .ok (.iconst (-1), 1) := by decide +kernel
theorem dX6_byteAt_18 : decode cX6_byteAt 18 = .ok (.ireturn, 1) := by decide +kernel
theorem dX6_isLetter_0 : decode cX6_isLetter 0 = .ok (.iload_n 0, 1) := by decide +kernel
theorem dX6_isLetter_1 : decode cX6_isLetter 1 = .ok (.bipush 97, 2) := by decide +kernel
theorem dX6_isLetter_3 : decode cX6_isLetter 3 = .ok (.bipush 122, 2) := by decide +kernel
theorem dX6_isLetter_5 : decode cX6_isLetter 5 = .ok (.invokestatic 45, 3) := by decide +kernel
theorem dX6_isLetter_8 : decode cX6_isLetter 8 = .ok (.ireturn, 1) := by decide +kernel
theorem dX6_isDigit_0 : decode cX6_isDigit 0 = .ok (.iload_n 0, 1) := by decide +kernel
theorem dX6_isDigit_1 : decode cX6_isDigit 1 = .ok (.bipush 48, 2) := by decide +kernel
theorem dX6_isDigit_3 : decode cX6_isDigit 3 = .ok (.bipush 57, 2) := by decide +kernel
theorem dX6_isDigit_5 : decode cX6_isDigit 5 = .ok (.invokestatic 45, 3) := by decide +kernel
theorem dX6_isDigit_8 : decode cX6_isDigit 8 = .ok (.ireturn, 1) := by decide +kernel
theorem dX6_advance_0 : decode cX6_advance 0 = .ok (.aload_n 0, 1) := by decide +kernel
theorem dX6_advance_1 : decode cX6_advance 1 = .ok (.aload_n 0, 1) := by decide +kernel
theorem dX6_advance_2 : decode cX6_advance 2 = .ok (.getfield 149, 3) := by decide +kernel
theorem dX6_advance_5 : decode cX6_advance 5 = .ok (.putfield 152, 3) := by decide +kernel
theorem dX6_advance_8 : decode cX6_advance 8 = .ok (.aload_n 0, 1) := by decide +kernel
theorem dX6_advance_9 : decode cX6_advance 9 = .ok (.aload_n 0, 1) := by decide +kernel
theorem dX6_advance_10 : decode cX6_advance 10 = .ok (.getfield 152, 3) := by decide +kernel
theorem dX6_advance_13 : decode cX6_advance 13 = .ok (.invokevirtual 155, 3) := by decide +kernel
theorem dX6_advance_16 : decode cX6_advance 16 = .ok (.bipush 32, 2) := by decide +kernel
theorem dX6_advance_18 : decode cX6_advance 18 = .ok (.if_icmp .ne 16, 3) := by decide +kernel
theorem dX6_advance_21 : decode cX6_advance 21 = .ok (.aload_n 0, 1) := by decide +kernel
theorem dX6_advance_22 : decode cX6_advance 22 = .ok (.dup, 1) := by decide +kernel
theorem dX6_advance_23 : decode cX6_advance 23 = .ok (.getfield 152, 3) := by decide +kernel
theorem dX6_advance_26 : decode cX6_advance 26 = .ok (.iconst 1, 1) := by decide +kernel
theorem dX6_advance_27 : decode cX6_advance 27 = .ok (.iadd, 1) := by decide +kernel
theorem dX6_advance_28 : decode cX6_advance 28 = .ok (.putfield 152, 3) := by decide +kernel
theorem dX6_advance_31 : decode cX6_advance 31 = .ok (.goto (-23), 3) := by decide +kernel
theorem dX6_advance_34 : decode cX6_advance 34 = .ok (.aload_n 0, 1) := by decide +kernel
theorem dX6_advance_35 : decode cX6_advance 35 = .ok (.aload_n 0, 1) := by decide +kernel
theorem dX6_advance_36 : decode cX6_advance 36 = .ok (.getfield 152, 3) := by decide +kernel
theorem dX6_advance_39 : decode cX6_advance 39 = .ok (.putfield 149, 3) := by decide +kernel
theorem dX6_advance_42 : decode cX6_advance 42 = .ok (.aload_n 0, 1) := by decide +kernel
theorem dX6_advance_43 : decode cX6_advance 43 = .ok (.aload_n 0, 1) := by decide +kernel
theorem dX6_advance_44 : decode cX6_advance 44 = .ok (.getfield 152, 3) := by decide +kernel
theorem dX6_advance_47 : decode cX6_advance 47 = .ok (.invokevirtual 155, 3) := by decide +kernel
theorem dX6_advance_50 : decode cX6_advance 50 = .ok (.istore_n 1, 1) := by decide +kernel
theorem dX6_advance_51 : decode cX6_advance 51 = .ok (.aload_n 0, 1) := by decide +kernel
theorem dX6_advance_52 : decode cX6_advance 52 = .ok (.iload_n 1, 1) := by decide +kernel
theorem dX6_advance_53 : decode cX6_advance 53 = .ok (.ifCond .ge 7, 3) := by decide +kernel
theorem dX6_advance_56 : decode cX6_advance 56 = .ok (.iconst 0, 1) := by decide +kernel
theorem dX6_advance_57 : decode cX6_advance 57 = .ok (.goto 26, 3) := by decide +kernel
theorem dX6_advance_60 : decode cX6_advance 60 = .ok (.iload_n 1, 1) := by decide +kernel
theorem dX6_advance_61 : decode cX6_advance 61 = .ok (.invokestatic 158, 3) := by decide +kernel
theorem dX6_advance_64 : decode cX6_advance 64 = .ok (.ifCond .eq 7, 3) := by decide +kernel
theorem dX6_advance_67 : decode cX6_advance 67 = .ok (.iconst 1, 1) := by decide +kernel
theorem dX6_advance_68 : decode cX6_advance 68 = .ok (.goto 15, 3) := by decide +kernel
theorem dX6_advance_71 : decode cX6_advance 71 = .ok (.iload_n 1, 1) := by decide +kernel
theorem dX6_advance_72 : decode cX6_advance 72 = .ok (.invokestatic 161, 3) := by decide +kernel
theorem dX6_advance_75 : decode cX6_advance 75 = .ok (.ifCond .eq 7, 3) := by decide +kernel
theorem dX6_advance_78 : decode cX6_advance 78 = .ok (.iconst 2, 1) := by decide +kernel
theorem dX6_advance_79 : decode cX6_advance 79 = .ok (.goto 4, 3) := by decide +kernel
theorem dX6_advance_82 : decode cX6_advance 82 = .ok (.iconst 3, 1) := by decide +kernel
theorem dX6_advance_83 : decode cX6_advance 83 = .ok (.putfield 164, 3) := by decide +kernel
theorem dX6_advance_86 : decode cX6_advance 86 = .ok (.aload_n 0, 1) := by decide +kernel
theorem dX6_advance_87 : decode cX6_advance 87 = .ok (.lconst 0, 1) := by decide +kernel
theorem dX6_advance_88 : decode cX6_advance 88 = .ok (.putfield 167, 3) := by decide +kernel
theorem dX6_advance_91 : decode cX6_advance 91 = .ok (.aload_n 0, 1) := by decide +kernel
theorem dX6_advance_92 : decode cX6_advance 92 = .ok (.aload_n 0, 1) := by decide +kernel
theorem dX6_advance_93 : decode cX6_advance 93 = .ok (.getfield 164, 3) := by decide +kernel
theorem dX6_advance_96 : decode cX6_advance 96 = .ok (.iconst 2, 1) := by decide +kernel
theorem dX6_advance_97 : decode cX6_advance 97 = .ok (.if_icmp .ne 7, 3) := by decide +kernel
theorem dX6_advance_100 : decode cX6_advance 100 = .ok (.iconst 0, 1) := by decide +kernel
theorem dX6_advance_101 : decode cX6_advance 101 = .ok (.goto 4, 3) := by decide +kernel
theorem dX6_advance_104 : decode cX6_advance 104 = .ok (.iload_n 1, 1) := by decide +kernel
theorem dX6_advance_105 : decode cX6_advance 105 = .ok (.putfield 171, 3) := by decide +kernel
theorem dX6_advance_108 : decode cX6_advance 108 = .ok (.aload_n 0, 1) := by decide +kernel
theorem dX6_advance_109 : decode cX6_advance 109 = .ok (.getfield 164, 3) := by decide +kernel
theorem dX6_advance_112 : decode cX6_advance 112 = .ok (.iconst 3, 1) := by decide +kernel
theorem dX6_advance_113 : decode cX6_advance 113 = .ok (.if_icmp .ne 13, 3) := by decide +kernel
theorem dX6_advance_116 : decode cX6_advance 116 = .ok (.aload_n 0, 1) := by decide +kernel
theorem dX6_advance_117 : decode cX6_advance 117 = .ok (.dup, 1) := by decide +kernel
theorem dX6_advance_118 : decode cX6_advance 118 = .ok (.getfield 149, 3) := by decide +kernel
theorem dX6_advance_121 : decode cX6_advance 121 = .ok (.iconst 1, 1) := by decide +kernel
theorem dX6_advance_122 : decode cX6_advance 122 = .ok (.iadd, 1) := by decide +kernel
theorem dX6_advance_123 : decode cX6_advance 123 = .ok (.putfield 149, 3) := by decide +kernel
theorem dX6_advance_126 : decode cX6_advance 126 = .ok (.aload_n 0, 1) := by decide +kernel
theorem dX6_advance_127 : decode cX6_advance 127 = .ok (.getfield 164, 3) := by decide +kernel
theorem dX6_advance_130 : decode cX6_advance 130 = .ok (.iconst 1, 1) := by decide +kernel
theorem dX6_advance_131 : decode cX6_advance 131 = .ok (.if_icmp .ne 76, 3) := by decide +kernel
theorem dX6_advance_134 : decode cX6_advance 134 = .ok (.aload_n 0, 1) := by decide +kernel
theorem dX6_advance_135 : decode cX6_advance 135 = .ok (.aload_n 0, 1) := by decide +kernel
theorem dX6_advance_136 : decode cX6_advance 136 = .ok (.getfield 149, 3) := by decide +kernel
theorem dX6_advance_139 : decode cX6_advance 139 = .ok (.invokevirtual 155, 3) := by decide +kernel
theorem dX6_advance_142 : decode cX6_advance 142 = .ok (.invokestatic 158, 3) := by decide +kernel
theorem dX6_advance_145 : decode cX6_advance 145 = .ok (.ifCond .eq 62, 3) := by decide +kernel
theorem dX6_advance_148 : decode cX6_advance 148 = .ok (.aload_n 0, 1) := by decide +kernel
theorem dX6_advance_149 : decode cX6_advance 149 = .ok (.aload_n 0, 1) := by decide +kernel
theorem dX6_advance_150 : decode cX6_advance 150 = .ok (.getfield 149, 3) := by decide +kernel
theorem dX6_advance_153 : decode cX6_advance 153 = .ok (.aload_n 0, 1) := by decide +kernel
theorem dX6_advance_154 : decode cX6_advance 154 = .ok (.getfield 152, 3) := by decide +kernel
theorem dX6_advance_157 : decode cX6_advance 157 = .ok (.isub, 1) := by decide +kernel
theorem dX6_advance_158 : decode cX6_advance 158 = .ok (.bipush 12, 2) := by decide +kernel
theorem dX6_advance_160 : decode cX6_advance 160 = .ok (.if_icmp .ge 28, 3) := by decide +kernel
theorem dX6_advance_163 : decode cX6_advance 163 = .ok (.ldc2_w 174, 3) := by decide +kernel
theorem dX6_advance_166 : decode cX6_advance 166 = .ok (.aload_n 0, 1) := by decide +kernel
theorem dX6_advance_167 : decode cX6_advance 167 = .ok (.getfield 167, 3) := by decide +kernel
theorem dX6_advance_170 : decode cX6_advance 170 = .ok (.lmul, 1) := by decide +kernel
theorem dX6_advance_171 : decode cX6_advance 171 = .ok (.aload_n 0, 1) := by decide +kernel
theorem dX6_advance_172 : decode cX6_advance 172 = .ok (.aload_n 0, 1) := by decide +kernel
theorem dX6_advance_173 : decode cX6_advance 173 = .ok (.getfield 149, 3) := by decide +kernel
theorem dX6_advance_176 : decode cX6_advance 176 = .ok (.invokevirtual 155, 3) := by decide +kernel
theorem dX6_advance_179 : decode cX6_advance 179 = .ok (.i2l, 1) := by decide +kernel
theorem dX6_advance_180 : decode cX6_advance 180 = .ok (.ladd, 1) := by decide +kernel
theorem dX6_advance_181 : decode cX6_advance 181 = .ok (.ldc2_w 176, 3) := by decide +kernel
theorem dX6_advance_184 : decode cX6_advance 184 = .ok (.lsub, 1) := by decide +kernel
theorem dX6_advance_185 : decode cX6_advance 185 = .ok (.goto 6, 3) := by decide +kernel
theorem dX6_advance_188 : decode cX6_advance 188 = .ok (.ldc2_w 178, 3) := by decide +kernel
theorem dX6_advance_191 : decode cX6_advance 191 = .ok (.putfield 167, 3) := by decide +kernel
theorem dX6_advance_194 : decode cX6_advance 194 = .ok (.aload_n 0, 1) := by decide +kernel
theorem dX6_advance_195 : decode cX6_advance 195 = .ok (.dup, 1) := by decide +kernel
theorem dX6_advance_196 : decode cX6_advance 196 = .ok (.getfield 149, 3) := by decide +kernel
theorem dX6_advance_199 : decode cX6_advance 199 = .ok (.iconst 1, 1) := by decide +kernel
theorem dX6_advance_200 : decode cX6_advance 200 = .ok (.iadd, 1) := by decide +kernel
theorem dX6_advance_201 : decode cX6_advance 201 = .ok (.putfield 149, 3) := by decide +kernel
theorem dX6_advance_204 : decode cX6_advance 204 = .ok (.goto (-78), 3) := by decide +kernel
theorem dX6_advance_207 : decode cX6_advance 207 = .ok (.aload_n 0, 1) := by decide +kernel
theorem dX6_advance_208 : decode cX6_advance 208 = .ok (.getfield 164, 3) := by decide +kernel
theorem dX6_advance_211 : decode cX6_advance 211 = .ok (.iconst 2, 1) := by decide +kernel
theorem dX6_advance_212 : decode cX6_advance 212 = .ok (.if_icmp .ne 69, 3) := by decide +kernel
theorem dX6_advance_215 : decode cX6_advance 215 = .ok (.aload_n 0, 1) := by decide +kernel
theorem dX6_advance_216 : decode cX6_advance 216 = .ok (.aload_n 0, 1) := by decide +kernel
theorem dX6_advance_217 : decode cX6_advance 217 = .ok (.getfield 149, 3) := by decide +kernel
theorem dX6_advance_220 : decode cX6_advance 220 = .ok (.invokevirtual 155, 3) := by decide +kernel
theorem dX6_advance_223 : decode cX6_advance 223 = .ok (.invokestatic 161, 3) := by decide +kernel
theorem dX6_advance_226 : decode cX6_advance 226 = .ok (.ifCond .eq 55, 3) := by decide +kernel
theorem dX6_advance_229 : decode cX6_advance 229 = .ok (.aload_n 0, 1) := by decide +kernel
theorem dX6_advance_230 : decode cX6_advance 230 = .ok (.aload_n 0, 1) := by decide +kernel
theorem dX6_advance_231 : decode cX6_advance 231 = .ok (.getfield 171, 3) := by decide +kernel
theorem dX6_advance_234 : decode cX6_advance 234 = .ok (.sipush 999, 3) := by decide +kernel
theorem dX6_advance_237 : decode cX6_advance 237 = .ok (.if_icmp .le 9, 3) := by decide +kernel
theorem dX6_advance_240 : decode cX6_advance 240 = .ok (.sipush 10000, 3) := by decide +kernel
theorem dX6_advance_243 : decode cX6_advance 243 = .ok (.goto 22, 3) := by decide +kernel
theorem dX6_advance_246 : decode cX6_advance 246 = .ok (.bipush 10, 2) := by decide +kernel
theorem dX6_advance_248 : decode cX6_advance 248 = .ok (.aload_n 0, 1) := by decide +kernel
theorem dX6_advance_249 : decode cX6_advance 249 = .ok (.getfield 171, 3) := by decide +kernel
theorem dX6_advance_252 : decode cX6_advance 252 = .ok (.imul, 1) := by decide +kernel
theorem dX6_advance_253 : decode cX6_advance 253 = .ok (.aload_n 0, 1) := by decide +kernel
theorem dX6_advance_254 : decode cX6_advance 254 = .ok (.aload_n 0, 1) := by decide +kernel
theorem dX6_advance_255 : decode cX6_advance 255 = .ok (.getfield 149, 3) := by decide +kernel
theorem dX6_advance_258 : decode cX6_advance 258 = .ok (.invokevirtual 155, 3) := by decide +kernel
theorem dX6_advance_261 : decode cX6_advance 261 = .ok (.iadd, 1) := by decide +kernel
theorem dX6_advance_262 : decode cX6_advance 262 = .ok (.bipush 48, 2) := by decide +kernel
theorem dX6_advance_264 : decode cX6_advance 264 = .ok (.isub, 1) := by decide +kernel
theorem dX6_advance_265 : decode cX6_advance 265 = .ok (.putfield 171, 3) := by decide +kernel
theorem dX6_advance_268 : decode cX6_advance 268 = .ok (.aload_n 0, 1) := by decide +kernel
theorem dX6_advance_269 : decode cX6_advance 269 = .ok (.dup, 1) := by decide +kernel
theorem dX6_advance_270 : decode cX6_advance 270 = .ok (.getfield 149, 3) := by decide +kernel
theorem dX6_advance_273 : decode cX6_advance 273 = .ok (.iconst 1, 1) := by decide +kernel
theorem dX6_advance_274 : decode cX6_advance 274 = .ok (.iadd, 1) := by decide +kernel
theorem dX6_advance_275 : decode cX6_advance 275 = .ok (.putfield 149, 3) := by decide +kernel
theorem dX6_advance_278 : decode cX6_advance 278 = .ok (.goto (-71), 3) := by decide +kernel
theorem dX6_advance_281 : decode cX6_advance 281 = .ok (.return_, 1) := by decide +kernel
theorem dX6_isWord_0 : decode cX6_isWord 0 = .ok (.aload_n 0, 1) := by decide +kernel
theorem dX6_isWord_1 : decode cX6_isWord 1 = .ok (.getfield 164, 3) := by decide +kernel
theorem dX6_isWord_4 : decode cX6_isWord 4 = .ok (.iconst 1, 1) := by decide +kernel
theorem dX6_isWord_5 : decode cX6_isWord 5 = .ok (.if_icmp .ne 16, 3) := by decide +kernel
theorem dX6_isWord_8 : decode cX6_isWord 8 = .ok (.aload_n 0, 1) := by decide +kernel
theorem dX6_isWord_9 : decode cX6_isWord 9 = .ok (.getfield 167, 3) := by decide +kernel
theorem dX6_isWord_12 : decode cX6_isWord 12 = .ok (.lload_n 1, 1) := by decide +kernel
theorem dX6_isWord_13 : decode cX6_isWord 13 = .ok (.lcmp, 1) := by decide +kernel
theorem dX6_isWord_14 : decode cX6_isWord 14 = .ok (.ifCond .ne 7, 3) := by decide +kernel
theorem dX6_isWord_17 : decode cX6_isWord 17 = .ok (.iconst 1, 1) := by decide +kernel
theorem dX6_isWord_18 : decode cX6_isWord 18 = .ok (.goto 4, 3) := by decide +kernel
theorem dX6_isWord_21 : decode cX6_isWord 21 = .ok (.iconst 0, 1) := by decide +kernel
theorem dX6_isWord_22 : decode cX6_isWord 22 = .ok (.ireturn, 1) := by decide +kernel
theorem dX6_kindHere_0 : decode cX6_kindHere 0 = .ok (.aload_n 0, 1) := by decide +kernel
theorem dX6_kindHere_1 : decode cX6_kindHere 1 = .ok (.ldc2_w 180, 3) := by decide +kernel
theorem dX6_kindHere_4 : decode cX6_kindHere 4 = .ok (.invokevirtual 182, 3) := by decide +kernel
theorem dX6_kindHere_7 : decode cX6_kindHere 7 = .ok (.ifCond .eq 7, 3) := by decide +kernel
theorem dX6_kindHere_10 : decode cX6_kindHere 10 = .ok (.iconst 0, 1) := by decide +kernel
theorem dX6_kindHere_11 : decode cX6_kindHere 11 = .ok (.goto 74, 3) := by decide +kernel
theorem dX6_kindHere_14 : decode cX6_kindHere 14 = .ok (.aload_n 0, 1) := by decide +kernel
theorem dX6_kindHere_15 : decode cX6_kindHere 15 = .ok (.ldc2_w 186, 3) := by decide +kernel
theorem dX6_kindHere_18 : decode cX6_kindHere 18 = .ok (.invokevirtual 182, 3) := by decide +kernel
theorem dX6_kindHere_21 : decode cX6_kindHere 21 = .ok (.ifCond .eq 7, 3) := by decide +kernel
theorem dX6_kindHere_24 : decode cX6_kindHere 24 = .ok (.iconst 1, 1) := by decide +kernel
theorem dX6_kindHere_25 : decode cX6_kindHere 25 = .ok (.goto 60, 3) := by decide +kernel
theorem dX6_kindHere_28 : decode cX6_kindHere 28 = .ok (.aload_n 0, 1) := by decide +kernel
theorem dX6_kindHere_29 : decode cX6_kindHere 29 = .ok (.ldc2_w 188, 3) := by decide +kernel
theorem dX6_kindHere_32 : decode cX6_kindHere 32 = .ok (.invokevirtual 182, 3) := by decide +kernel
theorem dX6_kindHere_35 : decode cX6_kindHere 35 = .ok (.ifCond .eq 7, 3) := by decide +kernel
theorem dX6_kindHere_38 : decode cX6_kindHere 38 = .ok (.iconst 2, 1) := by decide +kernel
theorem dX6_kindHere_39 : decode cX6_kindHere 39 = .ok (.goto 46, 3) := by decide +kernel
theorem dX6_kindHere_42 : decode cX6_kindHere 42 = .ok (.aload_n 0, 1) := by decide +kernel
theorem dX6_kindHere_43 : decode cX6_kindHere 43 = .ok (.ldc2_w 190, 3) := by decide +kernel
theorem dX6_kindHere_46 : decode cX6_kindHere 46 = .ok (.invokevirtual 182, 3) := by decide +kernel
theorem dX6_kindHere_49 : decode cX6_kindHere 49 = .ok (.ifCond .eq 7, 3) := by decide +kernel
theorem dX6_kindHere_52 : decode cX6_kindHere 52 = .ok (.iconst 3, 1) := by decide +kernel
theorem dX6_kindHere_53 : decode cX6_kindHere 53 = .ok (.goto 32, 3) := by decide +kernel
theorem dX6_kindHere_56 : decode cX6_kindHere 56 = .ok (.aload_n 0, 1) := by decide +kernel
theorem dX6_kindHere_57 : decode cX6_kindHere 57 = .ok (.ldc2_w 192, 3) := by decide +kernel
theorem dX6_kindHere_60 : decode cX6_kindHere 60 = .ok (.invokevirtual 182, 3) := by decide +kernel
theorem dX6_kindHere_63 : decode cX6_kindHere 63 = .ok (.ifCond .eq 7, 3) := by decide +kernel
theorem dX6_kindHere_66 : decode cX6_kindHere 66 = .ok (.iconst 4, 1) := by decide +kernel
theorem dX6_kindHere_67 : decode cX6_kindHere 67 = .ok (.goto 18, 3) := by decide +kernel
theorem dX6_kindHere_70 : decode cX6_kindHere 70 = .ok (.aload_n 0, 1) := by decide +kernel
theorem dX6_kindHere_71 : decode cX6_kindHere 71 = .ok (.ldc2_w 194, 3) := by decide +kernel
theorem dX6_kindHere_74 : decode cX6_kindHere 74 = .ok (.invokevirtual 182, 3) := by decide +kernel
theorem dX6_kindHere_77 : decode cX6_kindHere 77 = .ok (.ifCond .eq 7, 3) := by decide +kernel
theorem dX6_kindHere_80 : decode cX6_kindHere 80 = .ok (.iconst 5, 1) := by decide +kernel
theorem dX6_kindHere_81 : decode cX6_kindHere 81 = .ok (.goto 4, 3) := by decide +kernel
theorem dX6_kindHere_84 : decode cX6_kindHere 84 = .ok (.iconst (-1), 1) := by decide +kernel
theorem dX6_kindHere_85 : decode cX6_kindHere 85 = .ok (.ireturn, 1) := by decide +kernel
theorem dX6_wantNumber_0 : decode cX6_wantNumber 0 = .ok (.aload_n 0, 1) := by decide +kernel
theorem dX6_wantNumber_1 : decode cX6_wantNumber 1 = .ok (.getfield 171, 3) := by decide +kernel
theorem dX6_wantNumber_4 : decode cX6_wantNumber 4 = .ok (.istore_n 3, 1) := by decide +kernel
theorem dX6_wantNumber_5 : decode cX6_wantNumber 5 = .ok (.aload_n 0, 1) := by decide +kernel
theorem dX6_wantNumber_6 : decode cX6_wantNumber 6 = .ok (.aload_n 0, 1) := by decide +kernel
theorem dX6_wantNumber_7 : decode cX6_wantNumber 7 = .ok (.getfield 196, 3) := by decide +kernel
theorem dX6_wantNumber_10 : decode cX6_wantNumber 10 = .ok (.ifCond .eq 24, 3) := by decide +kernel
theorem dX6_wantNumber_13 : decode cX6_wantNumber 13 = .ok (.aload_n 0, 1) := by decide +kernel
theorem dX6_wantNumber_14 : decode cX6_wantNumber 14 = .ok (.getfield 164, 3) := by decide +kernel
theorem dX6_wantNumber_17 : decode cX6_wantNumber 17 = .ok (.iconst 2, 1) := by decide +kernel
theorem dX6_wantNumber_18 : decode cX6_wantNumber 18 = .ok (.if_icmp .ne 16, 3) := by decide +kernel
theorem dX6_wantNumber_21 : decode cX6_wantNumber 21 = .ok (.iload_n 3, 1) := by decide +kernel
theorem dX6_wantNumber_22 : decode cX6_wantNumber 22 = .ok (.iload_n 1, 1) := by decide +kernel
theorem dX6_wantNumber_23 : decode cX6_wantNumber 23 = .ok (.iload_n 2, 1) := by decide +kernel
theorem dX6_wantNumber_24 : decode cX6_wantNumber 24 = .ok (.invokestatic 45, 3) := by decide +kernel
theorem dX6_wantNumber_27 : decode cX6_wantNumber 27 = .ok (.ifCond .eq 7, 3) := by decide +kernel
theorem dX6_wantNumber_30 : decode cX6_wantNumber 30 = .ok (.iconst 1, 1) := by decide +kernel
theorem dX6_wantNumber_31 : decode cX6_wantNumber 31 = .ok (.goto 4, 3) := by decide +kernel
theorem dX6_wantNumber_34 : decode cX6_wantNumber 34 = .ok (.iconst 0, 1) := by decide +kernel
theorem dX6_wantNumber_35 : decode cX6_wantNumber 35 = .ok (.putfield 196, 3) := by decide +kernel
theorem dX6_wantNumber_38 : decode cX6_wantNumber 38 = .ok (.aload_n 0, 1) := by decide +kernel
theorem dX6_wantNumber_39 : decode cX6_wantNumber 39 = .ok (.getfield 196, 3) := by decide +kernel
theorem dX6_wantNumber_42 : decode cX6_wantNumber 42 = .ok (.ifCond .eq 7, 3) := by decide +kernel
theorem dX6_wantNumber_45 : decode cX6_wantNumber 45 = .ok (.aload_n 0, 1) := by decide +kernel
theorem dX6_wantNumber_46 : decode cX6_wantNumber 46 = .ok (.invokevirtual 200, 3) := by decide +kernel
theorem dX6_wantNumber_49 : decode cX6_wantNumber 49 = .ok (.iload_n 3, 1) := by decide +kernel
theorem dX6_wantNumber_50 : decode cX6_wantNumber 50 = .ok (.ireturn, 1) := by decide +kernel
theorem dX6_mayKnow_0 : decode cX6_mayKnow 0 = .ok (.aload_n 0, 1) := by decide +kernel
theorem dX6_mayKnow_1 : decode cX6_mayKnow 1 = .ok (.getfield 196, 3) := by decide +kernel
theorem dX6_mayKnow_4 : decode cX6_mayKnow 4 = .ok (.ifCond .eq 13, 3) := by decide +kernel
theorem dX6_mayKnow_7 : decode cX6_mayKnow 7 = .ok (.aload_n 0, 1) := by decide +kernel
theorem dX6_mayKnow_8 : decode cX6_mayKnow 8 = .ok (.ldc2_w 206, 3) := by decide +kernel
theorem dX6_mayKnow_11 : decode cX6_mayKnow 11 = .ok (.invokevirtual 182, 3) := by decide +kernel
theorem dX6_mayKnow_14 : decode cX6_mayKnow 14 = .ok (.ifCond .ne 5, 3) := by decide +kernel
theorem dX6_mayKnow_17 : decode cX6_mayKnow 17 = .ok (.iconst 0, 1) := by decide +kernel
theorem dX6_mayKnow_18 : decode cX6_mayKnow 18 = .ok (.ireturn, 1) := by decide +kernel
theorem dX6_mayKnow_19 : decode cX6_mayKnow 19 = .ok (.aload_n 0, 1) := by decide +kernel
theorem dX6_mayKnow_20 : decode cX6_mayKnow 20 = .ok (.invokevirtual 200, 3) := by decide +kernel
theorem dX6_mayKnow_23 : decode cX6_mayKnow 23 = .ok (.iconst 0, 1) := by decide +kernel
theorem dX6_mayKnow_24 : decode cX6_mayKnow 24 = .ok (.istore_n 1, 1) := by decide +kernel
theorem dX6_mayKnow_25 : decode cX6_mayKnow 25 = .ok (.iconst 0, 1) := by decide +kernel
theorem dX6_mayKnow_26 : decode cX6_mayKnow 26 = .ok (.istore_n 2, 1) := by decide +kernel
theorem dX6_mayKnow_27 : decode cX6_mayKnow 27 = .ok (.iload_n 2, 1) := by decide +kernel
theorem dX6_mayKnow_28 : decode cX6_mayKnow 28 = .ok (.iconst 4, 1) := by decide +kernel
theorem dX6_mayKnow_29 : decode cX6_mayKnow 29 = .ok (.if_icmp .ge 53, 3) := by decide +kernel
theorem dX6_mayKnow_32 : decode cX6_mayKnow 32 = .ok (.aload_n 0, 1) := by decide +kernel
theorem dX6_mayKnow_33 : decode cX6_mayKnow 33 = .ok (.getfield 196, 3) := by decide +kernel
theorem dX6_mayKnow_36 : decode cX6_mayKnow 36 = .ok (.ifCond .eq 46, 3) := by decide +kernel
theorem dX6_mayKnow_39 : decode cX6_mayKnow 39 = .ok (.iload_n 2, 1) := by decide +kernel
theorem dX6_mayKnow_40 : decode cX6_mayKnow 40 = .ok (.ifCond .eq 11, 3) := by decide +kernel
theorem dX6_mayKnow_43 : decode cX6_mayKnow 43 = .ok (.aload_n 0, 1) := by decide +kernel
theorem dX6_mayKnow_44 : decode cX6_mayKnow 44 = .ok (.getfield 164, 3) := by decide +kernel
theorem dX6_mayKnow_47 : decode cX6_mayKnow 47 = .ok (.iconst 2, 1) := by decide +kernel
theorem dX6_mayKnow_48 : decode cX6_mayKnow 48 = .ok (.if_icmp .ne 34, 3) := by decide +kernel
theorem dX6_mayKnow_51 : decode cX6_mayKnow 51 = .ok (.aload_n 0, 1) := by decide +kernel
theorem dX6_mayKnow_52 : decode cX6_mayKnow 52 = .ok (.iconst 0, 1) := by decide +kernel
theorem dX6_mayKnow_53 : decode cX6_mayKnow 53 = .ok (.bipush 8, 2) := by decide +kernel
theorem dX6_mayKnow_55 : decode cX6_mayKnow 55 = .ok (.invokevirtual 203, 3) := by decide +kernel
theorem dX6_mayKnow_58 : decode cX6_mayKnow 58 = .ok (.istore_n 3, 1) := by decide +kernel
theorem dX6_mayKnow_59 : decode cX6_mayKnow 59 = .ok (.iload_n 1, 1) := by decide +kernel
theorem dX6_mayKnow_60 : decode cX6_mayKnow 60 = .ok (.aload_n 0, 1) := by decide +kernel
theorem dX6_mayKnow_61 : decode cX6_mayKnow 61 = .ok (.getfield 196, 3) := by decide +kernel
theorem dX6_mayKnow_64 : decode cX6_mayKnow 64 = .ok (.ifCond .eq 9, 3) := by decide +kernel
theorem dX6_mayKnow_67 : decode cX6_mayKnow 67 = .ok (.iconst 1, 1) := by decide +kernel
theorem dX6_mayKnow_68 : decode cX6_mayKnow 68 = .ok (.iload_n 3, 1) := by decide +kernel
theorem dX6_mayKnow_69 : decode cX6_mayKnow 69 = .ok (.ishl, 1) := by decide +kernel
theorem dX6_mayKnow_70 : decode cX6_mayKnow 70 = .ok (.goto 4, 3) := by decide +kernel
theorem dX6_mayKnow_73 : decode cX6_mayKnow 73 = .ok (.iconst 0, 1) := by decide +kernel
theorem dX6_mayKnow_74 : decode cX6_mayKnow 74 = .ok (.ior, 1) := by decide +kernel
theorem dX6_mayKnow_75 : decode cX6_mayKnow 75 = .ok (.istore_n 1, 1) := by decide +kernel
theorem dX6_mayKnow_76 : decode cX6_mayKnow 76 = .ok (.iinc 2 1, 3) := by decide +kernel
theorem dX6_mayKnow_79 : decode cX6_mayKnow 79 = .ok (.goto (-52), 3) := by decide +kernel
theorem dX6_mayKnow_82 : decode cX6_mayKnow 82 = .ok (.iload_n 1, 1) := by decide +kernel
theorem dX6_mayKnow_83 : decode cX6_mayKnow 83 = .ok (.ireturn, 1) := by decide +kernel
theorem dX6_wantOne_0 : decode cX6_wantOne 0 = .ok (.aload_n 0, 1) := by decide +kernel
theorem dX6_wantOne_1 : decode cX6_wantOne 1 = .ok (.aload_n 0, 1) := by decide +kernel
theorem dX6_wantOne_2 : decode cX6_wantOne 2 = .ok (.getfield 7, 3) := by decide +kernel
theorem dX6_wantOne_5 : decode cX6_wantOne 5 = .ok (.bipush 6, 2) := by decide +kernel
theorem dX6_wantOne_7 : decode cX6_wantOne 7 = .ok (.iaload, 1) := by decide +kernel
theorem dX6_wantOne_8 : decode cX6_wantOne 8 = .ok (.bipush 8, 2) := by decide +kernel
theorem dX6_wantOne_10 : decode cX6_wantOne 10 = .ok (.if_icmp .ge 7, 3) := by decide +kernel
theorem dX6_wantOne_13 : decode cX6_wantOne 13 = .ok (.iconst 1, 1) := by decide +kernel
theorem dX6_wantOne_14 : decode cX6_wantOne 14 = .ok (.goto 4, 3) := by decide +kernel
theorem dX6_wantOne_17 : decode cX6_wantOne 17 = .ok (.iconst 0, 1) := by decide +kernel
theorem dX6_wantOne_18 : decode cX6_wantOne 18 = .ok (.putfield 196, 3) := by decide +kernel
theorem dX6_wantOne_21 : decode cX6_wantOne 21 = .ok (.aload_n 0, 1) := by decide +kernel
theorem dX6_wantOne_22 : decode cX6_wantOne 22 = .ok (.getfield 196, 3) := by decide +kernel
theorem dX6_wantOne_25 : decode cX6_wantOne 25 = .ok (.ifCond .ne 4, 3) := by decide +kernel
theorem dX6_wantOne_28 : decode cX6_wantOne 28 = .ok (.return_, 1) := by decide +kernel
theorem dX6_wantOne_29 : decode cX6_wantOne 29 = .ok (.aload_n 0, 1) := by decide +kernel
theorem dX6_wantOne_30 : decode cX6_wantOne 30 = .ok (.invokevirtual 200, 3) := by decide +kernel
theorem dX6_wantOne_33 : decode cX6_wantOne 33 = .ok (.iconst 0, 1) := by decide +kernel
theorem dX6_wantOne_34 : decode cX6_wantOne 34 = .ok (.istore_n 2, 1) := by decide +kernel
theorem dX6_wantOne_35 : decode cX6_wantOne 35 = .ok (.aload_n 0, 1) := by decide +kernel
theorem dX6_wantOne_36 : decode cX6_wantOne 36 = .ok (.ldc2_w 208, 3) := by decide +kernel
theorem dX6_wantOne_39 : decode cX6_wantOne 39 = .ok (.invokevirtual 182, 3) := by decide +kernel
theorem dX6_wantOne_42 : decode cX6_wantOne 42 = .ok (.ifCond .eq 9, 3) := by decide +kernel
theorem dX6_wantOne_45 : decode cX6_wantOne 45 = .ok (.aload_n 0, 1) := by decide +kernel
theorem dX6_wantOne_46 : decode cX6_wantOne 46 = .ok (.invokevirtual 200, 3) := by decide +kernel
theorem dX6_wantOne_49 : decode cX6_wantOne 49 = .ok (.iconst 1, 1) := by decide +kernel
theorem dX6_wantOne_50 : decode cX6_wantOne 50 = .ok (.istore_n 2, 1) := by decide +kernel
theorem dX6_wantOne_51 : decode cX6_wantOne 51 = .ok (.aload_n 0, 1) := by decide +kernel
theorem dX6_wantOne_52 : decode cX6_wantOne 52 = .ok (.invokevirtual 210, 3) := by decide +kernel
theorem dX6_wantOne_55 : decode cX6_wantOne 55 = .ok (.istore_n 3, 1) := by decide +kernel
theorem dX6_wantOne_56 : decode cX6_wantOne 56 = .ok (.aload_n 0, 1) := by decide +kernel
theorem dX6_wantOne_57 : decode cX6_wantOne 57 = .ok (.getfield 196, 3) := by decide +kernel
theorem dX6_wantOne_60 : decode cX6_wantOne 60 = .ok (.ifCond .eq 10, 3) := by decide +kernel
theorem dX6_wantOne_63 : decode cX6_wantOne 63 = .ok (.aload_n 0, 1) := by decide +kernel
theorem dX6_wantOne_64 : decode cX6_wantOne 64 = .ok (.iload_n 1, 1) := by decide +kernel
theorem dX6_wantOne_65 : decode cX6_wantOne 65 = .ok (.iload_n 2, 1) := by decide +kernel
theorem dX6_wantOne_66 : decode cX6_wantOne 66 = .ok (.iload_n 3, 1) := by decide +kernel
theorem dX6_wantOne_67 : decode cX6_wantOne 67 = .ok (.invokevirtual 78, 3) := by decide +kernel
theorem dX6_wantOne_70 : decode cX6_wantOne 70 = .ok (.return_, 1) := by decide +kernel
theorem dX6_wantLight_0 : decode cX6_wantLight 0 = .ok (.aload_n 0, 1) := by decide +kernel
theorem dX6_wantLight_1 : decode cX6_wantLight 1 = .ok (.invokevirtual 200, 3) := by decide +kernel
theorem dX6_wantLight_4 : decode cX6_wantLight 4 = .ok (.aload_n 0, 1) := by decide +kernel
theorem dX6_wantLight_5 : decode cX6_wantLight 5 = .ok (.iload_n 2, 1) := by decide +kernel
theorem dX6_wantLight_6 : decode cX6_wantLight 6 = .ok (.iload_n 3, 1) := by decide +kernel
theorem dX6_wantLight_7 : decode cX6_wantLight 7 = .ok (.invokevirtual 203, 3) := by decide +kernel
theorem dX6_wantLight_10 : decode cX6_wantLight 10 = .ok (.istore 4, 2) := by decide +kernel
theorem dX6_wantLight_12 : decode cX6_wantLight 12 = .ok (.aload_n 0, 1) := by decide +kernel
theorem dX6_wantLight_13 : decode cX6_wantLight 13 = .ok (.getfield 7, 3) := by decide +kernel
theorem dX6_wantLight_16 : decode cX6_wantLight 16 = .ok (.iload_n 1, 1) := by decide +kernel
theorem dX6_wantLight_17 : decode cX6_wantLight 17 = .ok (.aload_n 0, 1) := by decide +kernel
theorem dX6_wantLight_18 : decode cX6_wantLight 18 = .ok (.getfield 196, 3) := by decide +kernel
theorem dX6_wantLight_21 : decode cX6_wantLight 21 = .ok (.ifCond .eq 8, 3) := by decide +kernel
theorem dX6_wantLight_24 : decode cX6_wantLight 24 = .ok (.iload 4, 2) := by decide +kernel
theorem dX6_wantLight_26 : decode cX6_wantLight 26 = .ok (.goto 9, 3) := by decide +kernel
theorem dX6_wantLight_29 : decode cX6_wantLight 29 = .ok (.aload_n 0, 1) := by decide +kernel
theorem dX6_wantLight_30 : decode cX6_wantLight 30 = .ok (.getfield 7, 3) := by decide +kernel
theorem dX6_wantLight_33 : decode cX6_wantLight 33 = .ok (.iload_n 1, 1) := by decide +kernel
theorem dX6_wantLight_34 : decode cX6_wantLight 34 = .ok (.iaload, 1) := by decide +kernel
theorem dX6_wantLight_35 : decode cX6_wantLight 35 = .ok (.iastore, 1) := by decide +kernel
theorem dX6_wantLight_36 : decode cX6_wantLight 36 = .ok (.return_, 1) := by decide +kernel
theorem dX6_wantItem_0 : decode cX6_wantItem 0 = .ok (.aload_n 0, 1) := by decide +kernel
theorem dX6_wantItem_1 : decode cX6_wantItem 1 = .ok (.invokevirtual 213, 3) := by decide +kernel
theorem dX6_wantItem_4 : decode cX6_wantItem 4 = .ok (.ifCond .lt 14, 3) := by decide +kernel
theorem dX6_wantItem_7 : decode cX6_wantItem 7 = .ok (.aload_n 0, 1) := by decide +kernel
theorem dX6_wantItem_8 : decode cX6_wantItem 8 = .ok (.aload_n 0, 1) := by decide +kernel
theorem dX6_wantItem_9 : decode cX6_wantItem 9 = .ok (.invokevirtual 213, 3) := by decide +kernel
theorem dX6_wantItem_12 : decode cX6_wantItem 12 = .ok (.invokevirtual 216, 3) := by decide +kernel
theorem dX6_wantItem_15 : decode cX6_wantItem 15 = .ok (.goto 132, 3) := by decide +kernel
theorem dX6_wantItem_18 : decode cX6_wantItem 18 = .ok (.aload_n 0, 1) := by decide +kernel
theorem dX6_wantItem_19 : decode cX6_wantItem 19 = .ok (.ldc2_w 219, 3) := by decide +kernel
theorem dX6_wantItem_22 : decode cX6_wantItem 22 = .ok (.invokevirtual 182, 3) := by decide +kernel
theorem dX6_wantItem_25 : decode cX6_wantItem 25 = .ok (.ifCond .eq 54, 3) := by decide +kernel
theorem dX6_wantItem_28 : decode cX6_wantItem 28 = .ok (.aload_n 0, 1) := by decide +kernel
theorem dX6_wantItem_29 : decode cX6_wantItem 29 = .ok (.invokevirtual 200, 3) := by decide +kernel
theorem dX6_wantItem_32 : decode cX6_wantItem 32 = .ok (.aload_n 0, 1) := by decide +kernel
theorem dX6_wantItem_33 : decode cX6_wantItem 33 = .ok (.iconst 0, 1) := by decide +kernel
theorem dX6_wantItem_34 : decode cX6_wantItem 34 = .ok (.bipush 27, 2) := by decide +kernel
theorem dX6_wantItem_36 : decode cX6_wantItem 36 = .ok (.invokevirtual 203, 3) := by decide +kernel
theorem dX6_wantItem_39 : decode cX6_wantItem 39 = .ok (.istore_n 1, 1) := by decide +kernel
theorem dX6_wantItem_40 : decode cX6_wantItem 40 = .ok (.aload_n 0, 1) := by decide +kernel
theorem dX6_wantItem_41 : decode cX6_wantItem 41 = .ok (.getfield 196, 3) := by decide +kernel
theorem dX6_wantItem_44 : decode cX6_wantItem 44 = .ok (.ifCond .eq 13, 3) := by decide +kernel
theorem dX6_wantItem_47 : decode cX6_wantItem 47 = .ok (.aload_n 0, 1) := by decide +kernel
theorem dX6_wantItem_48 : decode cX6_wantItem 48 = .ok (.iconst 0, 1) := by decide +kernel
theorem dX6_wantItem_49 : decode cX6_wantItem 49 = .ok (.bipush 12, 2) := by decide +kernel
theorem dX6_wantItem_51 : decode cX6_wantItem 51 = .ok (.invokevirtual 203, 3) := by decide +kernel
theorem dX6_wantItem_54 : decode cX6_wantItem 54 = .ok (.goto 4, 3) := by decide +kernel
theorem dX6_wantItem_57 : decode cX6_wantItem 57 = .ok (.iconst 0, 1) := by decide +kernel
theorem dX6_wantItem_58 : decode cX6_wantItem 58 = .ok (.istore_n 2, 1) := by decide +kernel
theorem dX6_wantItem_59 : decode cX6_wantItem 59 = .ok (.aload_n 0, 1) := by decide +kernel
theorem dX6_wantItem_60 : decode cX6_wantItem 60 = .ok (.getfield 196, 3) := by decide +kernel
theorem dX6_wantItem_63 : decode cX6_wantItem 63 = .ok (.ifCond .eq 13, 3) := by decide +kernel
theorem dX6_wantItem_66 : decode cX6_wantItem 66 = .ok (.aload_n 0, 1) := by decide +kernel
theorem dX6_wantItem_67 : decode cX6_wantItem 67 = .ok (.getfield 7, 3) := by decide +kernel
theorem dX6_wantItem_70 : decode cX6_wantItem 70 = .ok (.bipush 7, 2) := by decide +kernel
theorem dX6_wantItem_72 : decode cX6_wantItem 72 = .ok (.iload_n 1, 1) := by decide +kernel
theorem dX6_wantItem_73 : decode cX6_wantItem 73 = .ok (.iadd, 1) := by decide +kernel
theorem dX6_wantItem_74 : decode cX6_wantItem 74 = .ok (.iload_n 2, 1) := by decide +kernel
theorem dX6_wantItem_75 : decode cX6_wantItem 75 = .ok (.iastore, 1) := by decide +kernel
theorem dX6_wantItem_76 : decode cX6_wantItem 76 = .ok (.goto 71, 3) := by decide +kernel
theorem dX6_wantItem_79 : decode cX6_wantItem 79 = .ok (.aload_n 0, 1) := by decide +kernel
theorem dX6_wantItem_80 : decode cX6_wantItem 80 = .ok (.ldc2_w 221, 3) := by decide +kernel
theorem dX6_wantItem_83 : decode cX6_wantItem 83 = .ok (.invokevirtual 182, 3) := by decide +kernel
theorem dX6_wantItem_86 : decode cX6_wantItem 86 = .ok (.ifCond .eq 14, 3) := by decide +kernel
theorem dX6_wantItem_89 : decode cX6_wantItem 89 = .ok (.aload_n 0, 1) := by decide +kernel
theorem dX6_wantItem_90 : decode cX6_wantItem 90 = .ok (.iconst 1, 1) := by decide +kernel
theorem dX6_wantItem_91 : decode cX6_wantItem 91 = .ok (.iconst 0, 1) := by decide +kernel
theorem dX6_wantItem_92 : decode cX6_wantItem 92 = .ok (.bipush 12, 2) := by decide +kernel
theorem dX6_wantItem_94 : decode cX6_wantItem 94 = .ok (.invokevirtual 223, 3) := by decide +kernel
theorem dX6_wantItem_97 : decode cX6_wantItem 97 = .ok (.goto 50, 3) := by decide +kernel
theorem dX6_wantItem_100 : decode cX6_wantItem 100 = .ok (.aload_n 0, 1) := by decide +kernel
theorem dX6_wantItem_101 : decode cX6_wantItem 101 = .ok (.ldc2_w 226, 3) := by decide +kernel
theorem dX6_wantItem_104 : decode cX6_wantItem 104 = .ok (.invokevirtual 182, 3) := by decide +kernel
theorem dX6_wantItem_107 : decode cX6_wantItem 107 = .ok (.ifCond .eq 15, 3) := by decide +kernel
theorem dX6_wantItem_110 : decode cX6_wantItem 110 = .ok (.aload_n 0, 1) := by decide +kernel
theorem dX6_wantItem_111 : decode cX6_wantItem 111 = .ok (.iconst 2, 1) := by decide +kernel
theorem dX6_wantItem_112 : decode cX6_wantItem 112 = .ok (.iconst 0, 1) := by decide +kernel
theorem dX6_wantItem_113 : decode cX6_wantItem 113 = .ok (.sipush 9999, 3) := by decide +kernel
theorem dX6_wantItem_116 : decode cX6_wantItem 116 = .ok (.invokevirtual 223, 3) := by decide +kernel
theorem dX6_wantItem_119 : decode cX6_wantItem 119 = .ok (.goto 28, 3) := by decide +kernel
theorem dX6_wantItem_122 : decode cX6_wantItem 122 = .ok (.aload_n 0, 1) := by decide +kernel
theorem dX6_wantItem_123 : decode cX6_wantItem 123 = .ok (.ldc2_w 228, 3) := by decide +kernel
theorem dX6_wantItem_126 : decode cX6_wantItem 126 = .ok (.invokevirtual 182, 3) := by decide +kernel
theorem dX6_wantItem_129 : decode cX6_wantItem 129 = .ok (.ifCond .eq 13, 3) := by decide +kernel
theorem dX6_wantItem_132 : decode cX6_wantItem 132 = .ok (.aload_n 0, 1) := by decide +kernel
theorem dX6_wantItem_133 : decode cX6_wantItem 133 = .ok (.iconst 3, 1) := by decide +kernel
theorem dX6_wantItem_134 : decode cX6_wantItem 134 = .ok (.iconst 1, 1) := by decide +kernel
theorem dX6_wantItem_135 : decode cX6_wantItem 135 = .ok (.iconst 3, 1) := by decide +kernel
theorem dX6_wantItem_136 : decode cX6_wantItem 136 = .ok (.invokevirtual 223, 3) := by decide +kernel
theorem dX6_wantItem_139 : decode cX6_wantItem 139 = .ok (.goto 8, 3) := by decide +kernel
theorem dX6_wantItem_142 : decode cX6_wantItem 142 = .ok (.aload_n 0, 1) := by decide +kernel
theorem dX6_wantItem_143 : decode cX6_wantItem 143 = .ok (.iconst 0, 1) := by decide +kernel
theorem dX6_wantItem_144 : decode cX6_wantItem 144 = .ok (.putfield 196, 3) := by decide +kernel
theorem dX6_wantItem_147 : decode cX6_wantItem 147 = .ok (.return_, 1) := by decide +kernel
theorem dX6_text_0 : decode cX6_text 0 = .ok (.aload_n 0, 1) := by decide +kernel
theorem dX6_text_1 : decode cX6_text 1 = .ok (.iconst 1, 1) := by decide +kernel
theorem dX6_text_2 : decode cX6_text 2 = .ok (.aload_n 0, 1) := by decide +kernel
theorem dX6_text_3 : decode cX6_text 3 = .ok (.getfield 41, 3) := by decide +kernel
theorem dX6_text_6 : decode cX6_text 6 = .ok (.invokevirtual 135, 3) := by decide +kernel
theorem dX6_text_9 : decode cX6_text 9 = .ok (.aload_n 0, 1) := by decide +kernel
theorem dX6_text_10 : decode cX6_text 10 = .ok (.iconst 0, 1) := by decide +kernel
theorem dX6_text_11 : decode cX6_text 11 = .ok (.putfield 149, 3) := by decide +kernel
theorem dX6_text_14 : decode cX6_text 14 = .ok (.aload_n 0, 1) := by decide +kernel
theorem dX6_text_15 : decode cX6_text 15 = .ok (.iconst 1, 1) := by decide +kernel
theorem dX6_text_16 : decode cX6_text 16 = .ok (.putfield 196, 3) := by decide +kernel
theorem dX6_text_19 : decode cX6_text 19 = .ok (.iconst 0, 1) := by decide +kernel
theorem dX6_text_20 : decode cX6_text 20 = .ok (.istore_n 1, 1) := by decide +kernel
theorem dX6_text_21 : decode cX6_text 21 = .ok (.iconst 1, 1) := by decide +kernel
theorem dX6_text_22 : decode cX6_text 22 = .ok (.istore_n 2, 1) := by decide +kernel
theorem dX6_text_23 : decode cX6_text 23 = .ok (.iload_n 2, 1) := by decide +kernel
theorem dX6_text_24 : decode cX6_text 24 = .ok (.ifCond .eq 47, 3) := by decide +kernel
theorem dX6_text_27 : decode cX6_text 27 = .ok (.aload_n 0, 1) := by decide +kernel
theorem dX6_text_28 : decode cX6_text 28 = .ok (.invokevirtual 200, 3) := by decide +kernel
theorem dX6_text_31 : decode cX6_text 31 = .ok (.aload_n 0, 1) := by decide +kernel
theorem dX6_text_32 : decode cX6_text 32 = .ok (.invokevirtual 230, 3) := by decide +kernel
theorem dX6_text_35 : decode cX6_text 35 = .ok (.iinc 1 1, 3) := by decide +kernel
theorem dX6_text_38 : decode cX6_text 38 = .ok (.aload_n 0, 1) := by decide +kernel
theorem dX6_text_39 : decode cX6_text 39 = .ok (.getfield 196, 3) := by decide +kernel
theorem dX6_text_42 : decode cX6_text 42 = .ok (.ifCond .eq 24, 3) := by decide +kernel
theorem dX6_text_45 : decode cX6_text 45 = .ok (.aload_n 0, 1) := by decide +kernel
theorem dX6_text_46 : decode cX6_text 46 = .ok (.getfield 164, 3) := by decide +kernel
theorem dX6_text_49 : decode cX6_text 49 = .ok (.iconst 3, 1) := by decide +kernel
theorem dX6_text_50 : decode cX6_text 50 = .ok (.if_icmp .ne 16, 3) := by decide +kernel
theorem dX6_text_53 : decode cX6_text 53 = .ok (.aload_n 0, 1) := by decide +kernel
theorem dX6_text_54 : decode cX6_text 54 = .ok (.getfield 171, 3) := by decide +kernel
theorem dX6_text_57 : decode cX6_text 57 = .ok (.bipush 59, 2) := by decide +kernel
theorem dX6_text_59 : decode cX6_text 59 = .ok (.if_icmp .ne 7, 3) := by decide +kernel
theorem dX6_text_62 : decode cX6_text 62 = .ok (.iconst 1, 1) := by decide +kernel
theorem dX6_text_63 : decode cX6_text 63 = .ok (.goto 4, 3) := by decide +kernel
theorem dX6_text_66 : decode cX6_text 66 = .ok (.iconst 0, 1) := by decide +kernel
theorem dX6_text_67 : decode cX6_text 67 = .ok (.istore_n 2, 1) := by decide +kernel
theorem dX6_text_68 : decode cX6_text 68 = .ok (.goto (-45), 3) := by decide +kernel
theorem dX6_text_71 : decode cX6_text 71 = .ok (.aload_n 0, 1) := by decide +kernel
theorem dX6_text_72 : decode cX6_text 72 = .ok (.aload_n 0, 1) := by decide +kernel
theorem dX6_text_73 : decode cX6_text 73 = .ok (.getfield 196, 3) := by decide +kernel
theorem dX6_text_76 : decode cX6_text 76 = .ok (.ifCond .eq 14, 3) := by decide +kernel
theorem dX6_text_79 : decode cX6_text 79 = .ok (.aload_n 0, 1) := by decide +kernel
theorem dX6_text_80 : decode cX6_text 80 = .ok (.getfield 164, 3) := by decide +kernel
theorem dX6_text_83 : decode cX6_text 83 = .ok (.ifCond .ne 7, 3) := by decide +kernel
theorem dX6_text_86 : decode cX6_text 86 = .ok (.iconst 1, 1) := by decide +kernel
theorem dX6_text_87 : decode cX6_text 87 = .ok (.goto 4, 3) := by decide +kernel
theorem dX6_text_90 : decode cX6_text 90 = .ok (.iconst 0, 1) := by decide +kernel
theorem dX6_text_91 : decode cX6_text 91 = .ok (.putfield 196, 3) := by decide +kernel
theorem dX6_text_94 : decode cX6_text 94 = .ok (.aload_n 0, 1) := by decide +kernel
theorem dX6_text_95 : decode cX6_text 95 = .ok (.iconst 0, 1) := by decide +kernel
theorem dX6_text_96 : decode cX6_text 96 = .ok (.putfield 146, 3) := by decide +kernel
theorem dX6_text_99 : decode cX6_text 99 = .ok (.aload_n 0, 1) := by decide +kernel
theorem dX6_text_100 : decode cX6_text 100 = .ok (.getfield 196, 3) := by decide +kernel
theorem dX6_text_103 : decode cX6_text 103 = .ok (.ifCond .ne 19, 3) := by decide +kernel
theorem dX6_text_106 : decode cX6_text 106 = .ok (.aload_n 0, 1) := by decide +kernel
theorem dX6_text_107 : decode cX6_text 107 = .ok (.iconst 0, 1) := by decide +kernel
theorem dX6_text_108 : decode cX6_text 108 = .ok (.aload_n 0, 1) := by decide +kernel
theorem dX6_text_109 : decode cX6_text 109 = .ok (.getfield 41, 3) := by decide +kernel
theorem dX6_text_112 : decode cX6_text 112 = .ok (.invokevirtual 135, 3) := by decide +kernel
theorem dX6_text_115 : decode cX6_text 115 = .ok (.iconst (-1), 1) := by decide +kernel
theorem dX6_text_116 : decode cX6_text 116 = .ok (.aload_n 0, 1) := by decide +kernel
theorem dX6_text_117 : decode cX6_text 117 = .ok (.getfield 152, 3) := by decide +kernel
theorem dX6_text_120 : decode cX6_text 120 = .ok (.isub, 1) := by decide +kernel
theorem dX6_text_121 : decode cX6_text 121 = .ok (.ireturn, 1) := by decide +kernel
theorem dX6_text_122 : decode cX6_text 122 = .ok (.iload_n 1, 1) := by decide +kernel
theorem dX6_text_123 : decode cX6_text 123 = .ok (.ireturn, 1) := by decide +kernel
theorem dX6_isSheet_0 : decode cX6_isSheet 0 = .ok (.iload_n 0, 1) := by decide +kernel
theorem dX6_isSheet_1 : decode cX6_isSheet 1 = .ok (.iconst 0, 1) := by decide +kernel
theorem dX6_isSheet_2 : decode cX6_isSheet 2 = .ok (.iconst 3, 1) := by decide +kernel
theorem dX6_isSheet_3 : decode cX6_isSheet 3 = .ok (.invokestatic 45, 3) := by decide +kernel
theorem dX6_isSheet_6 : decode cX6_isSheet 6 = .ok (.ireturn, 1) := by decide +kernel
theorem dX6_narrow_0 : decode cX6_narrow 0 = .ok (.iload_n 0, 1) := by decide +kernel
theorem dX6_narrow_1 : decode cX6_narrow 1 = .ok (.bipush 8, 2) := by decide +kernel
theorem dX6_narrow_3 : decode cX6_narrow 3 = .ok (.if_icmp .ne 13, 3) := by decide +kernel
theorem dX6_narrow_6 : decode cX6_narrow 6 = .ok (.lload_n 1, 1) := by decide +kernel
theorem dX6_narrow_7 : decode cX6_narrow 7 = .ok (.bipush 56, 2) := by decide +kernel
theorem dX6_narrow_9 : decode cX6_narrow 9 = .ok (.lshl, 1) := by decide +kernel
theorem dX6_narrow_10 : decode cX6_narrow 10 = .ok (.bipush 56, 2) := by decide +kernel
theorem dX6_narrow_12 : decode cX6_narrow 12 = .ok (.lshr, 1) := by decide +kernel
theorem dX6_narrow_13 : decode cX6_narrow 13 = .ok (.goto 20, 3) := by decide +kernel
theorem dX6_narrow_16 : decode cX6_narrow 16 = .ok (.iload_n 0, 1) := by decide +kernel
theorem dX6_narrow_17 : decode cX6_narrow 17 = .ok (.bipush 16, 2) := by decide +kernel
theorem dX6_narrow_19 : decode cX6_narrow 19 = .ok (.if_icmp .ne 13, 3) := by decide +kernel
theorem dX6_narrow_22 : decode cX6_narrow 22 = .ok (.lload_n 1, 1) := by decide +kernel
theorem dX6_narrow_23 : decode cX6_narrow 23 = .ok (.bipush 48, 2) := by decide +kernel
theorem dX6_narrow_25 : decode cX6_narrow 25 = .ok (.lshl, 1) := by decide +kernel
theorem dX6_narrow_26 : decode cX6_narrow 26 = .ok (.bipush 48, 2) := by decide +kernel
theorem dX6_narrow_28 : decode cX6_narrow 28 = .ok (.lshr, 1) := by decide +kernel
theorem dX6_narrow_29 : decode cX6_narrow 29 = .ok (.goto 4, 3) := by decide +kernel
theorem dX6_narrow_32 : decode cX6_narrow 32 = .ok (.lload_n 1, 1) := by decide +kernel
theorem dX6_narrow_33 : decode cX6_narrow 33 = .ok (.lreturn, 1) := by decide +kernel
theorem dX6_sheet_0 : decode cX6_sheet 0 = .ok (.iload_n 1, 1) := by decide +kernel
theorem dX6_sheet_1 : decode cX6_sheet 1 = .ok (.invokestatic 233, 3) := by decide +kernel
theorem dX6_sheet_4 : decode cX6_sheet 4 = .ok (.ifCond .eq 25, 3) := by decide +kernel
theorem dX6_sheet_7 : decode cX6_sheet 7 = .ok (.iload_n 2, 1) := by decide +kernel
theorem dX6_sheet_8 : decode cX6_sheet 8 = .ok (.ifCond .eq 28, 3) := by decide +kernel
theorem dX6_sheet_11 : decode cX6_sheet 11 = .ok (.iload_n 2, 1) := by decide +kernel
theorem dX6_sheet_12 : decode cX6_sheet 12 = .ok (.bipush 8, 2) := by decide +kernel
theorem dX6_sheet_14 : decode cX6_sheet 14 = .ok (.if_icmp .eq 22, 3) := by decide +kernel
theorem dX6_sheet_17 : decode cX6_sheet 17 = .ok (.iload_n 2, 1) := by decide +kernel
theorem dX6_sheet_18 : decode cX6_sheet 18 = .ok (.bipush 16, 2) := by decide +kernel
theorem dX6_sheet_20 : decode cX6_sheet 20 = .ok (.if_icmp .eq 16, 3) := by decide +kernel
theorem dX6_sheet_23 : decode cX6_sheet 23 = .ok (.iload_n 2, 1) := by decide +kernel
theorem dX6_sheet_24 : decode cX6_sheet 24 = .ok (.bipush 64, 2) := by decide +kernel
theorem dX6_sheet_26 : decode cX6_sheet 26 = .ok (.if_icmp .eq 10, 3) := by decide +kernel
theorem dX6_sheet_29 : decode cX6_sheet 29 = .ok (.aload_n 0, 1) := by decide +kernel
theorem dX6_sheet_30 : decode cX6_sheet 30 = .ok (.ldc 44, 2) := by decide +kernel
theorem dX6_sheet_32 : decode cX6_sheet 32 = .ok (.invokevirtual 53, 3) := by decide +kernel
theorem dX6_sheet_35 : decode cX6_sheet 35 = .ok (.ireturn, 1) := by decide +kernel
theorem dX6_sheet_36 : decode cX6_sheet 36 = .ok (.iload_n 3, 1) := by decide +kernel
theorem dX6_sheet_37 : decode cX6_sheet 37 = .ok (.ifCond .ge 10, 3) := by decide +kernel
theorem dX6_sheet_40 : decode cX6_sheet 40 = .ok (.aload_n 0, 1) := by decide +kernel
theorem dX6_sheet_41 : decode cX6_sheet 41 = .ok (.ldc 236, 2) := by decide +kernel
theorem dX6_sheet_43 : decode cX6_sheet 43 = .ok (.invokevirtual 53, 3) := by decide +kernel
theorem dX6_sheet_46 : decode cX6_sheet 46 = .ok (.ireturn, 1) := by decide +kernel
theorem dX6_sheet_47 : decode cX6_sheet 47 = .ok (.iload_n 3, 1) := by decide +kernel
theorem dX6_sheet_48 : decode cX6_sheet 48 = .ok (.bipush 40, 2) := by decide +kernel
theorem dX6_sheet_50 : decode cX6_sheet 50 = .ok (.if_icmp .le 10, 3) := by decide +kernel
theorem dX6_sheet_53 : decode cX6_sheet 53 = .ok (.aload_n 0, 1) := by decide +kernel
theorem dX6_sheet_54 : decode cX6_sheet 54 = .ok (.ldc 44, 2) := by decide +kernel
theorem dX6_sheet_56 : decode cX6_sheet 56 = .ok (.invokevirtual 53, 3) := by decide +kernel
theorem dX6_sheet_59 : decode cX6_sheet 59 = .ok (.ireturn, 1) := by decide +kernel
theorem dX6_sheet_60 : decode cX6_sheet 60 = .ok (.aload_n 0, 1) := by decide +kernel
theorem dX6_sheet_61 : decode cX6_sheet 61 = .ok (.getfield 25, 3) := by decide +kernel
theorem dX6_sheet_64 : decode cX6_sheet 64 = .ok (.iload_n 1, 1) := by decide +kernel
theorem dX6_sheet_65 : decode cX6_sheet 65 = .ok (.iload_n 2, 1) := by decide +kernel
theorem dX6_sheet_66 : decode cX6_sheet 66 = .ok (.iastore, 1) := by decide +kernel
theorem dX6_sheet_67 : decode cX6_sheet 67 = .ok (.aload_n 0, 1) := by decide +kernel
theorem dX6_sheet_68 : decode cX6_sheet 68 = .ok (.getfield 28, 3) := by decide +kernel
theorem dX6_sheet_71 : decode cX6_sheet 71 = .ok (.iload_n 1, 1) := by decide +kernel
theorem dX6_sheet_72 : decode cX6_sheet 72 = .ok (.iload_n 2, 1) := by decide +kernel
theorem dX6_sheet_73 : decode cX6_sheet 73 = .ok (.ifCond .ne 7, 3) := by decide +kernel
theorem dX6_sheet_76 : decode cX6_sheet 76 = .ok (.iconst 0, 1) := by decide +kernel
theorem dX6_sheet_77 : decode cX6_sheet 77 = .ok (.goto 4, 3) := by decide +kernel
theorem dX6_sheet_80 : decode cX6_sheet 80 = .ok (.iload_n 3, 1) := by decide +kernel
theorem dX6_sheet_81 : decode cX6_sheet 81 = .ok (.iastore, 1) := by decide +kernel
theorem dX6_sheet_82 : decode cX6_sheet 82 = .ok (.iconst 0, 1) := by decide +kernel
theorem dX6_sheet_83 : decode cX6_sheet 83 = .ok (.istore 4, 2) := by decide +kernel
theorem dX6_sheet_85 : decode cX6_sheet 85 = .ok (.iload 4, 2) := by decide +kernel
theorem dX6_sheet_87 : decode cX6_sheet 87 = .ok (.bipush 40, 2) := by decide +kernel
theorem dX6_sheet_89 : decode cX6_sheet 89 = .ok (.if_icmp .ge 22, 3) := by decide +kernel
theorem dX6_sheet_92 : decode cX6_sheet 92 = .ok (.aload_n 0, 1) := by decide +kernel
theorem dX6_sheet_93 : decode cX6_sheet 93 = .ok (.getfield 31, 3) := by decide +kernel
theorem dX6_sheet_96 : decode cX6_sheet 96 = .ok (.bipush 40, 2) := by decide +kernel
theorem dX6_sheet_98 : decode cX6_sheet 98 = .ok (.iload_n 1, 1) := by decide +kernel
theorem dX6_sheet_99 : decode cX6_sheet 99 = .ok (.imul, 1) := by decide +kernel
theorem dX6_sheet_100 : decode cX6_sheet 100 = .ok (.iload 4, 2) := by decide +kernel
theorem dX6_sheet_102 : decode cX6_sheet 102 = .ok (.iadd, 1) := by decide +kernel
theorem dX6_sheet_103 : decode cX6_sheet 103 = .ok (.lconst 0, 1) := by decide +kernel
theorem dX6_sheet_104 : decode cX6_sheet 104 = .ok (.lastore, 1) := by decide +kernel
theorem dX6_sheet_105 : decode cX6_sheet 105 = .ok (.iinc 4 1, 3) := by decide +kernel
theorem dX6_sheet_108 : decode cX6_sheet 108 = .ok (.goto (-23), 3) := by decide +kernel
theorem dX6_sheet_111 : decode cX6_sheet 111 = .ok (.aload_n 0, 1) := by decide +kernel
theorem dX6_sheet_112 : decode cX6_sheet 112 = .ok (.getfield 28, 3) := by decide +kernel
theorem dX6_sheet_115 : decode cX6_sheet 115 = .ok (.iload_n 1, 1) := by decide +kernel
theorem dX6_sheet_116 : decode cX6_sheet 116 = .ok (.iaload, 1) := by decide +kernel
theorem dX6_sheet_117 : decode cX6_sheet 117 = .ok (.ireturn, 1) := by decide +kernel
theorem dX6_write_0 : decode cX6_write 0 = .ok (.iload_n 1, 1) := by decide +kernel
theorem dX6_write_1 : decode cX6_write 1 = .ok (.invokestatic 233, 3) := by decide +kernel
theorem dX6_write_4 : decode cX6_write 4 = .ok (.ifCond .ne 11, 3) := by decide +kernel
theorem dX6_write_7 : decode cX6_write 7 = .ok (.aload_n 0, 1) := by decide +kernel
theorem dX6_write_8 : decode cX6_write 8 = .ok (.ldc 44, 2) := by decide +kernel
theorem dX6_write_10 : decode cX6_write 10 = .ok (.invokevirtual 53, 3) := by decide +kernel
theorem dX6_write_13 : decode cX6_write 13 = .ok (.i2l, 1) := by decide +kernel
theorem dX6_write_14 : decode cX6_write 14 = .ok (.lreturn, 1) := by decide +kernel
theorem dX6_write_15 : decode cX6_write 15 = .ok (.aload_n 0, 1) := by decide +kernel
theorem dX6_write_16 : decode cX6_write 16 = .ok (.getfield 25, 3) := by decide +kernel
theorem dX6_write_19 : decode cX6_write 19 = .ok (.iload_n 1, 1) := by decide +kernel
theorem dX6_write_20 : decode cX6_write 20 = .ok (.iaload, 1) := by decide +kernel
theorem dX6_write_21 : decode cX6_write 21 = .ok (.ifCond .ne 11, 3) := by decide +kernel
theorem dX6_write_24 : decode cX6_write 24 = .ok (.aload_n 0, 1) := by decide +kernel
theorem dX6_write_25 : decode cX6_write 25 = .ok (.ldc 237, 2) := by decide +kernel
theorem dX6_write_27 : decode cX6_write 27 = .ok (.invokevirtual 53, 3) := by decide +kernel
theorem dX6_write_30 : decode cX6_write 30 = .ok (.i2l, 1) := by decide +kernel
theorem dX6_write_31 : decode cX6_write 31 = .ok (.lreturn, 1) := by decide +kernel
theorem dX6_write_32 : decode cX6_write 32 = .ok (.iload_n 2, 1) := by decide +kernel
theorem dX6_write_33 : decode cX6_write 33 = .ok (.iconst 0, 1) := by decide +kernel
theorem dX6_write_34 : decode cX6_write 34 = .ok (.aload_n 0, 1) := by decide +kernel
theorem dX6_write_35 : decode cX6_write 35 = .ok (.getfield 28, 3) := by decide +kernel
theorem dX6_write_38 : decode cX6_write 38 = .ok (.iload_n 1, 1) := by decide +kernel
theorem dX6_write_39 : decode cX6_write 39 = .ok (.iaload, 1) := by decide +kernel
theorem dX6_write_40 : decode cX6_write 40 = .ok (.iconst 1, 1) := by decide +kernel
theorem dX6_write_41 : decode cX6_write 41 = .ok (.isub, 1) := by decide +kernel
theorem dX6_write_42 : decode cX6_write 42 = .ok (.invokestatic 45, 3) := by decide +kernel
theorem dX6_write_45 : decode cX6_write 45 = .ok (.ifCond .ne 11, 3) := by decide +kernel
theorem dX6_write_48 : decode cX6_write 48 = .ok (.aload_n 0, 1) := by decide +kernel
theorem dX6_write_49 : decode cX6_write 49 = .ok (.ldc 44, 2) := by decide +kernel
theorem dX6_write_51 : decode cX6_write 51 = .ok (.invokevirtual 53, 3) := by decide +kernel
theorem dX6_write_54 : decode cX6_write 54 = .ok (.i2l, 1) := by decide +kernel
theorem dX6_write_55 : decode cX6_write 55 = .ok (.lreturn, 1) := by decide +kernel
theorem dX6_write_56 : decode cX6_write 56 = .ok (.aload_n 0, 1) := by decide +kernel
theorem dX6_write_57 : decode cX6_write 57 = .ok (.getfield 31, 3) := by decide +kernel
theorem dX6_write_60 : decode cX6_write 60 = .ok (.bipush 40, 2) := by decide +kernel
theorem dX6_write_62 : decode cX6_write 62 = .ok (.iload_n 1, 1) := by decide +kernel
theorem dX6_write_63 : decode cX6_write 63 = .ok (.imul, 1) := by decide +kernel
theorem dX6_write_64 : decode cX6_write 64 = .ok (.iload_n 2, 1) := by decide +kernel
theorem dX6_write_65 : decode cX6_write 65 = .ok (.iadd, 1) := by decide +kernel
theorem dX6_write_66 : decode cX6_write 66 = .ok (.laload, 1) := by decide +kernel
theorem dX6_write_67 : decode cX6_write 67 = .ok (.lstore 5, 2) := by decide +kernel
theorem dX6_write_69 : decode cX6_write 69 = .ok (.aload_n 0, 1) := by decide +kernel
theorem dX6_write_70 : decode cX6_write 70 = .ok (.getfield 31, 3) := by decide +kernel
theorem dX6_write_73 : decode cX6_write 73 = .ok (.bipush 40, 2) := by decide +kernel
theorem dX6_write_75 : decode cX6_write 75 = .ok (.iload_n 1, 1) := by decide +kernel
theorem dX6_write_76 : decode cX6_write 76 = .ok (.imul, 1) := by decide +kernel
theorem dX6_write_77 : decode cX6_write 77 = .ok (.iload_n 2, 1) := by decide +kernel
theorem dX6_write_78 : decode cX6_write 78 = .ok (.iadd, 1) := by decide +kernel
theorem dX6_write_79 : decode cX6_write 79 = .ok (.aload_n 0, 1) := by decide +kernel
theorem dX6_write_80 : decode cX6_write 80 = .ok (.getfield 25, 3) := by decide +kernel
theorem dX6_write_83 : decode cX6_write 83 = .ok (.iload_n 1, 1) := by decide +kernel
theorem dX6_write_84 : decode cX6_write 84 = .ok (.iaload, 1) := by decide +kernel
theorem dX6_write_85 : decode cX6_write 85 = .ok (.lload_n 3, 1) := by decide +kernel
theorem dX6_write_86 : decode cX6_write 86 = .ok (.invokestatic 238, 3) := by decide +kernel
theorem dX6_write_89 : decode cX6_write 89 = .ok (.lastore, 1) := by decide +kernel
theorem dX6_write_90 : decode cX6_write 90 = .ok (.lload 5, 2) := by decide +kernel
theorem dX6_write_92 : decode cX6_write 92 = .ok (.lreturn, 1) := by decide +kernel
theorem dX6_isPart_0 : decode cX6_isPart 0 = .ok (.iload_n 2, 1) := by decide +kernel
theorem dX6_isPart_1 : decode cX6_isPart 1 = .ok (.ifCond .lt 33, 3) := by decide +kernel
theorem dX6_isPart_4 : decode cX6_isPart 4 = .ok (.iload_n 3, 1) := by decide +kernel
theorem dX6_isPart_5 : decode cX6_isPart 5 = .ok (.ifCond .lt 29, 3) := by decide +kernel
theorem dX6_isPart_8 : decode cX6_isPart 8 = .ok (.iload_n 3, 1) := by decide +kernel
theorem dX6_isPart_9 : decode cX6_isPart 9 = .ok (.aload_n 0, 1) := by decide +kernel
theorem dX6_isPart_10 : decode cX6_isPart 10 = .ok (.getfield 28, 3) := by decide +kernel
theorem dX6_isPart_13 : decode cX6_isPart 13 = .ok (.iload_n 1, 1) := by decide +kernel
theorem dX6_isPart_14 : decode cX6_isPart 14 = .ok (.iaload, 1) := by decide +kernel
theorem dX6_isPart_15 : decode cX6_isPart 15 = .ok (.if_icmp .gt 19, 3) := by decide +kernel
theorem dX6_isPart_18 : decode cX6_isPart 18 = .ok (.iload_n 2, 1) := by decide +kernel
theorem dX6_isPart_19 : decode cX6_isPart 19 = .ok (.aload_n 0, 1) := by decide +kernel
theorem dX6_isPart_20 : decode cX6_isPart 20 = .ok (.getfield 28, 3) := by decide +kernel
theorem dX6_isPart_23 : decode cX6_isPart 23 = .ok (.iload_n 1, 1) := by decide +kernel
theorem dX6_isPart_24 : decode cX6_isPart 24 = .ok (.iaload, 1) := by decide +kernel
theorem dX6_isPart_25 : decode cX6_isPart 25 = .ok (.iload_n 3, 1) := by decide +kernel
theorem dX6_isPart_26 : decode cX6_isPart 26 = .ok (.isub, 1) := by decide +kernel
theorem dX6_isPart_27 : decode cX6_isPart 27 = .ok (.if_icmp .gt 7, 3) := by decide +kernel
theorem dX6_isPart_30 : decode cX6_isPart 30 = .ok (.iconst 1, 1) := by decide +kernel
theorem dX6_isPart_31 : decode cX6_isPart 31 = .ok (.goto 4, 3) := by decide +kernel
theorem dX6_isPart_34 : decode cX6_isPart 34 = .ok (.iconst 0, 1) := by decide +kernel
theorem dX6_isPart_35 : decode cX6_isPart 35 = .ok (.ireturn, 1) := by decide +kernel
theorem dX6_copy_0 : decode cX6_copy 0 = .ok (.iload_n 1, 1) := by decide +kernel
theorem dX6_copy_1 : decode cX6_copy 1 = .ok (.invokestatic 233, 3) := by decide +kernel
theorem dX6_copy_4 : decode cX6_copy 4 = .ok (.ifCond .eq 10, 3) := by decide +kernel
theorem dX6_copy_7 : decode cX6_copy 7 = .ok (.iload_n 3, 1) := by decide +kernel
theorem dX6_copy_8 : decode cX6_copy 8 = .ok (.invokestatic 233, 3) := by decide +kernel
theorem dX6_copy_11 : decode cX6_copy 11 = .ok (.ifCond .ne 10, 3) := by decide +kernel
theorem dX6_copy_14 : decode cX6_copy 14 = .ok (.aload_n 0, 1) := by decide +kernel
theorem dX6_copy_15 : decode cX6_copy 15 = .ok (.ldc 44, 2) := by decide +kernel
theorem dX6_copy_17 : decode cX6_copy 17 = .ok (.invokevirtual 53, 3) := by decide +kernel
theorem dX6_copy_20 : decode cX6_copy 20 = .ok (.ireturn, 1) := by decide +kernel
theorem dX6_copy_21 : decode cX6_copy 21 = .ok (.aload_n 0, 1) := by decide +kernel
theorem dX6_copy_22 : decode cX6_copy 22 = .ok (.getfield 25, 3) := by decide +kernel
theorem dX6_copy_25 : decode cX6_copy 25 = .ok (.iload_n 1, 1) := by decide +kernel
theorem dX6_copy_26 : decode cX6_copy 26 = .ok (.iaload, 1) := by decide +kernel
theorem dX6_copy_27 : decode cX6_copy 27 = .ok (.ifCond .eq 12, 3) := by decide +kernel
theorem dX6_copy_30 : decode cX6_copy 30 = .ok (.aload_n 0, 1) := by decide +kernel
theorem dX6_copy_31 : decode cX6_copy 31 = .ok (.getfield 25, 3) := by decide +kernel
theorem dX6_copy_34 : decode cX6_copy 34 = .ok (.iload_n 3, 1) := by decide +kernel
theorem dX6_copy_35 : decode cX6_copy 35 = .ok (.iaload, 1) := by decide +kernel
theorem dX6_copy_36 : decode cX6_copy 36 = .ok (.ifCond .ne 10, 3) := by decide +kernel
theorem dX6_copy_39 : decode cX6_copy 39 = .ok (.aload_n 0, 1) := by decide +kernel
theorem dX6_copy_40 : decode cX6_copy 40 = .ok (.ldc 237, 2) := by decide +kernel
theorem dX6_copy_42 : decode cX6_copy 42 = .ok (.invokevirtual 53, 3) := by decide +kernel
theorem dX6_copy_45 : decode cX6_copy 45 = .ok (.ireturn, 1) := by decide +kernel
theorem dX6_copy_46 : decode cX6_copy 46 = .ok (.aload_n 0, 1) := by decide +kernel
theorem dX6_copy_47 : decode cX6_copy 47 = .ok (.getfield 25, 3) := by decide +kernel
theorem dX6_copy_50 : decode cX6_copy 50 = .ok (.iload_n 1, 1) := by decide +kernel
theorem dX6_copy_51 : decode cX6_copy 51 = .ok (.iaload, 1) := by decide +kernel
theorem dX6_copy_52 : decode cX6_copy 52 = .ok (.aload_n 0, 1) := by decide +kernel
theorem dX6_copy_53 : decode cX6_copy 53 = .ok (.getfield 25, 3) := by decide +kernel
theorem dX6_copy_56 : decode cX6_copy 56 = .ok (.iload_n 3, 1) := by decide +kernel
theorem dX6_copy_57 : decode cX6_copy 57 = .ok (.iaload, 1) := by decide +kernel
theorem dX6_copy_58 : decode cX6_copy 58 = .ok (.if_icmp .eq 10, 3) := by decide +kernel
theorem dX6_copy_61 : decode cX6_copy 61 = .ok (.aload_n 0, 1) := by decide +kernel
theorem dX6_copy_62 : decode cX6_copy 62 = .ok (.ldc 96, 2) := by decide +kernel
theorem dX6_copy_64 : decode cX6_copy 64 = .ok (.invokevirtual 53, 3) := by decide +kernel
theorem dX6_copy_67 : decode cX6_copy 67 = .ok (.ireturn, 1) := by decide +kernel
theorem dX6_copy_68 : decode cX6_copy 68 = .ok (.aload_n 0, 1) := by decide +kernel
theorem dX6_copy_69 : decode cX6_copy 69 = .ok (.iload_n 1, 1) := by decide +kernel
theorem dX6_copy_70 : decode cX6_copy 70 = .ok (.iload_n 2, 1) := by decide +kernel
theorem dX6_copy_71 : decode cX6_copy 71 = .ok (.iload 5, 2) := by decide +kernel
theorem dX6_copy_73 : decode cX6_copy 73 = .ok (.invokevirtual 242, 3) := by decide +kernel
theorem dX6_copy_76 : decode cX6_copy 76 = .ok (.ifCond .eq 15, 3) := by decide +kernel
theorem dX6_copy_79 : decode cX6_copy 79 = .ok (.aload_n 0, 1) := by decide +kernel
theorem dX6_copy_80 : decode cX6_copy 80 = .ok (.iload_n 3, 1) := by decide +kernel
theorem dX6_copy_81 : decode cX6_copy 81 = .ok (.iload 4, 2) := by decide +kernel
theorem dX6_copy_83 : decode cX6_copy 83 = .ok (.iload 5, 2) := by decide +kernel
theorem dX6_copy_85 : decode cX6_copy 85 = .ok (.invokevirtual 242, 3) := by decide +kernel
theorem dX6_copy_88 : decode cX6_copy 88 = .ok (.ifCond .ne 10, 3) := by decide +kernel
theorem dX6_copy_91 : decode cX6_copy 91 = .ok (.aload_n 0, 1) := by decide +kernel
theorem dX6_copy_92 : decode cX6_copy 92 = .ok (.ldc 44, 2) := by decide +kernel
theorem dX6_copy_94 : decode cX6_copy 94 = .ok (.invokevirtual 53, 3) := by decide +kernel
theorem dX6_copy_97 : decode cX6_copy 97 = .ok (.ireturn, 1) := by decide +kernel
theorem dX6_copy_98 : decode cX6_copy 98 = .ok (.iconst 0, 1) := by decide +kernel
theorem dX6_copy_99 : decode cX6_copy 99 = .ok (.istore 6, 2) := by decide +kernel
theorem dX6_copy_101 : decode cX6_copy 101 = .ok (.iload 6, 2) := by decide +kernel
theorem dX6_copy_103 : decode cX6_copy 103 = .ok (.iload 5, 2) := by decide +kernel
theorem dX6_copy_105 : decode cX6_copy 105 = .ok (.if_icmp .ge 30, 3) := by decide +kernel
theorem dX6_copy_108 : decode cX6_copy 108 = .ok (.aload_n 0, 1) := by decide +kernel
theorem dX6_copy_109 : decode cX6_copy 109 = .ok (.getfield 35, 3) := by decide +kernel
theorem dX6_copy_112 : decode cX6_copy 112 = .ok (.iload 6, 2) := by decide +kernel
theorem dX6_copy_114 : decode cX6_copy 114 = .ok (.aload_n 0, 1) := by decide +kernel
theorem dX6_copy_115 : decode cX6_copy 115 = .ok (.getfield 31, 3) := by decide +kernel
theorem dX6_copy_118 : decode cX6_copy 118 = .ok (.bipush 40, 2) := by decide +kernel
theorem dX6_copy_120 : decode cX6_copy 120 = .ok (.iload_n 1, 1) := by decide +kernel
theorem dX6_copy_121 : decode cX6_copy 121 = .ok (.imul, 1) := by decide +kernel
theorem dX6_copy_122 : decode cX6_copy 122 = .ok (.iload_n 2, 1) := by decide +kernel
theorem dX6_copy_123 : decode cX6_copy 123 = .ok (.iadd, 1) := by decide +kernel
theorem dX6_copy_124 : decode cX6_copy 124 = .ok (.iload 6, 2) := by decide +kernel
