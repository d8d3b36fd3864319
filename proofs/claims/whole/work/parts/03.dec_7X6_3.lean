theorem dX6_copy_126 : decode cX6_copy 126 = .ok (.iadd, 1) := by decide +kernel
theorem dX6_copy_127 : decode cX6_copy 127 = .ok (.laload, 1) := by decide +kernel
theorem dX6_copy_128 : decode cX6_copy 128 = .ok (.lastore, 1) := by decide +kernel
theorem dX6_copy_129 : decode cX6_copy 129 = .ok (.iinc 6 1, 3) := by decide +kernel
theorem dX6_copy_132 : decode cX6_copy 132 = .ok (.goto (-31), 3) := by decide +kernel
theorem dX6_copy_135 : decode cX6_copy 135 = .ok (.iconst 0, 1) := by decide +kernel
theorem dX6_copy_136 : decode cX6_copy 136 = .ok (.istore 6, 2) := by decide +kernel
theorem dX6_copy_138 : decode cX6_copy 138 = .ok (.iload 6, 2) := by decide +kernel
theorem dX6_copy_140 : decode cX6_copy 140 = .ok (.iload 5, 2) := by decide +kernel
theorem dX6_copy_142 : decode cX6_copy 142 = .ok (.if_icmp .ge 31, 3) := by decide +kernel
theorem dX6_copy_145 : decode cX6_copy 145 = .ok (.aload_n 0, 1) := by decide +kernel
theorem dX6_copy_146 : decode cX6_copy 146 = .ok (.getfield 31, 3) := by decide +kernel
theorem dX6_copy_149 : decode cX6_copy 149 = .ok (.bipush 40, 2) := by decide +kernel
theorem dX6_copy_151 : decode cX6_copy 151 = .ok (.iload_n 3, 1) := by decide +kernel
theorem dX6_copy_152 : decode cX6_copy 152 = .ok (.imul, 1) := by decide +kernel
theorem dX6_copy_153 : decode cX6_copy 153 = .ok (.iload 4, 2) := by decide +kernel
theorem dX6_copy_155 : decode cX6_copy 155 = .ok (.iadd, 1) := by decide +kernel
theorem dX6_copy_156 : decode cX6_copy 156 = .ok (.iload 6, 2) := by decide +kernel
theorem dX6_copy_158 : decode cX6_copy 158 = .ok (.iadd, 1) := by decide +kernel
theorem dX6_copy_159 : decode cX6_copy 159 = .ok (.aload_n 0, 1) := by decide +kernel
theorem dX6_copy_160 : decode cX6_copy 160 = .ok (.getfield 35, 3) := by decide +kernel
theorem dX6_copy_163 : decode cX6_copy 163 = .ok (.iload 6, 2) := by decide +kernel
theorem dX6_copy_165 : decode cX6_copy 165 = .ok (.laload, 1) := by decide +kernel
theorem dX6_copy_166 : decode cX6_copy 166 = .ok (.lastore, 1) := by decide +kernel
theorem dX6_copy_167 : decode cX6_copy 167 = .ok (.iinc 6 1, 3) := by decide +kernel
theorem dX6_copy_170 : decode cX6_copy 170 = .ok (.goto (-32), 3) := by decide +kernel
theorem dX6_copy_173 : decode cX6_copy 173 = .ok (.iload 5, 2) := by decide +kernel
theorem dX6_copy_175 : decode cX6_copy 175 = .ok (.ireturn, 1) := by decide +kernel
theorem dX6_badSheet_0 : decode cX6_badSheet 0 = .ok (.iload_n 1, 1) := by decide +kernel
theorem dX6_badSheet_1 : decode cX6_badSheet 1 = .ok (.invokestatic 233, 3) := by decide +kernel
theorem dX6_badSheet_4 : decode cX6_badSheet 4 = .ok (.ifCond .ne 8, 3) := by decide +kernel
theorem dX6_badSheet_7 : decode cX6_badSheet 7 = .ok (.ldc 44, 2) := by decide +kernel
theorem dX6_badSheet_9 : decode cX6_badSheet 9 = .ok (.goto 18, 3) := by decide +kernel
theorem dX6_badSheet_12 : decode cX6_badSheet 12 = .ok (.aload_n 0, 1) := by decide +kernel
theorem dX6_badSheet_13 : decode cX6_badSheet 13 = .ok (.getfield 25, 3) := by decide +kernel
theorem dX6_badSheet_16 : decode cX6_badSheet 16 = .ok (.iload_n 1, 1) := by decide +kernel
theorem dX6_badSheet_17 : decode cX6_badSheet 17 = .ok (.iaload, 1) := by decide +kernel
theorem dX6_badSheet_18 : decode cX6_badSheet 18 = .ok (.ifCond .ne 8, 3) := by decide +kernel
theorem dX6_badSheet_21 : decode cX6_badSheet 21 = .ok (.ldc 237, 2) := by decide +kernel
theorem dX6_badSheet_23 : decode cX6_badSheet 23 = .ok (.goto 4, 3) := by decide +kernel
theorem dX6_badSheet_26 : decode cX6_badSheet 26 = .ok (.iconst 0, 1) := by decide +kernel
theorem dX6_badSheet_27 : decode cX6_badSheet 27 = .ok (.ireturn, 1) := by decide +kernel
theorem dX6_lays_0 : decode cX6_lays 0 = .ok (.aload_n 0, 1) := by decide +kernel
theorem dX6_lays_1 : decode cX6_lays 1 = .ok (.iload_n 1, 1) := by decide +kernel
theorem dX6_lays_2 : decode cX6_lays 2 = .ok (.invokevirtual 245, 3) := by decide +kernel
theorem dX6_lays_5 : decode cX6_lays 5 = .ok (.istore_n 2, 1) := by decide +kernel
theorem dX6_lays_6 : decode cX6_lays 6 = .ok (.iload_n 2, 1) := by decide +kernel
theorem dX6_lays_7 : decode cX6_lays 7 = .ok (.ifCond .eq 9, 3) := by decide +kernel
theorem dX6_lays_10 : decode cX6_lays 10 = .ok (.aload_n 0, 1) := by decide +kernel
theorem dX6_lays_11 : decode cX6_lays 11 = .ok (.iload_n 2, 1) := by decide +kernel
theorem dX6_lays_12 : decode cX6_lays 12 = .ok (.invokevirtual 53, 3) := by decide +kernel
theorem dX6_lays_15 : decode cX6_lays 15 = .ok (.ireturn, 1) := by decide +kernel
theorem dX6_lays_16 : decode cX6_lays 16 = .ok (.iconst 0, 1) := by decide +kernel
theorem dX6_lays_17 : decode cX6_lays 17 = .ok (.istore_n 3, 1) := by decide +kernel
theorem dX6_lays_18 : decode cX6_lays 18 = .ok (.iconst 0, 1) := by decide +kernel
theorem dX6_lays_19 : decode cX6_lays 19 = .ok (.istore 4, 2) := by decide +kernel
theorem dX6_lays_21 : decode cX6_lays 21 = .ok (.iload 4, 2) := by decide +kernel
theorem dX6_lays_23 : decode cX6_lays 23 = .ok (.aload_n 0, 1) := by decide +kernel
theorem dX6_lays_24 : decode cX6_lays 24 = .ok (.getfield 28, 3) := by decide +kernel
theorem dX6_lays_27 : decode cX6_lays 27 = .ok (.iload_n 1, 1) := by decide +kernel
theorem dX6_lays_28 : decode cX6_lays 28 = .ok (.iaload, 1) := by decide +kernel
theorem dX6_lays_29 : decode cX6_lays 29 = .ok (.if_icmp .ge 62, 3) := by decide +kernel
theorem dX6_lays_32 : decode cX6_lays 32 = .ok (.iload 4, 2) := by decide +kernel
theorem dX6_lays_34 : decode cX6_lays 34 = .ok (.bipush 28, 2) := by decide +kernel
theorem dX6_lays_36 : decode cX6_lays 36 = .ok (.if_icmp .ge 55, 3) := by decide +kernel
theorem dX6_lays_39 : decode cX6_lays 39 = .ok (.aload_n 0, 1) := by decide +kernel
theorem dX6_lays_40 : decode cX6_lays 40 = .ok (.getfield 31, 3) := by decide +kernel
theorem dX6_lays_43 : decode cX6_lays 43 = .ok (.bipush 40, 2) := by decide +kernel
theorem dX6_lays_45 : decode cX6_lays 45 = .ok (.iload_n 1, 1) := by decide +kernel
theorem dX6_lays_46 : decode cX6_lays 46 = .ok (.imul, 1) := by decide +kernel
theorem dX6_lays_47 : decode cX6_lays 47 = .ok (.iload 4, 2) := by decide +kernel
theorem dX6_lays_49 : decode cX6_lays 49 = .ok (.iadd, 1) := by decide +kernel
theorem dX6_lays_50 : decode cX6_lays 50 = .ok (.laload, 1) := by decide +kernel
theorem dX6_lays_51 : decode cX6_lays 51 = .ok (.lstore 5, 2) := by decide +kernel
theorem dX6_lays_53 : decode cX6_lays 53 = .ok (.lload 5, 2) := by decide +kernel
theorem dX6_lays_55 : decode cX6_lays 55 = .ok (.lconst 0, 1) := by decide +kernel
theorem dX6_lays_56 : decode cX6_lays 56 = .ok (.lcmp, 1) := by decide +kernel
theorem dX6_lays_57 : decode cX6_lays 57 = .ok (.ifCond .lt 28, 3) := by decide +kernel
theorem dX6_lays_60 : decode cX6_lays 60 = .ok (.lload 5, 2) := by decide +kernel
theorem dX6_lays_62 : decode cX6_lays 62 = .ok (.ldc2_w 248, 3) := by decide +kernel
theorem dX6_lays_65 : decode cX6_lays 65 = .ok (.lcmp, 1) := by decide +kernel
theorem dX6_lays_66 : decode cX6_lays 66 = .ok (.ifCond .gt 19, 3) := by decide +kernel
theorem dX6_lays_69 : decode cX6_lays 69 = .ok (.aload_n 0, 1) := by decide +kernel
theorem dX6_lays_70 : decode cX6_lays 70 = .ok (.getfield 7, 3) := by decide +kernel
theorem dX6_lays_73 : decode cX6_lays 73 = .ok (.bipush 7, 2) := by decide +kernel
theorem dX6_lays_75 : decode cX6_lays 75 = .ok (.iload 4, 2) := by decide +kernel
theorem dX6_lays_77 : decode cX6_lays 77 = .ok (.iadd, 1) := by decide +kernel
theorem dX6_lays_78 : decode cX6_lays 78 = .ok (.lload 5, 2) := by decide +kernel
theorem dX6_lays_80 : decode cX6_lays 80 = .ok (.l2i, 1) := by decide +kernel
theorem dX6_lays_81 : decode cX6_lays 81 = .ok (.iastore, 1) := by decide +kernel
theorem dX6_lays_82 : decode cX6_lays 82 = .ok (.iinc 3 1, 3) := by decide +kernel
theorem dX6_lays_85 : decode cX6_lays 85 = .ok (.iinc 4 1, 3) := by decide +kernel
theorem dX6_lays_88 : decode cX6_lays 88 = .ok (.goto (-67), 3) := by decide +kernel
theorem dX6_lays_91 : decode cX6_lays 91 = .ok (.iload_n 3, 1) := by decide +kernel
theorem dX6_lays_92 : decode cX6_lays 92 = .ok (.ireturn, 1) := by decide +kernel
theorem dX6_book_0 : decode cX6_book 0 = .ok (.aload_n 0, 1) := by decide +kernel
theorem dX6_book_1 : decode cX6_book 1 = .ok (.iload_n 1, 1) := by decide +kernel
theorem dX6_book_2 : decode cX6_book 2 = .ok (.invokevirtual 245, 3) := by decide +kernel
theorem dX6_book_5 : decode cX6_book 5 = .ok (.istore_n 2, 1) := by decide +kernel
theorem dX6_book_6 : decode cX6_book 6 = .ok (.iload_n 2, 1) := by decide +kernel
theorem dX6_book_7 : decode cX6_book 7 = .ok (.ifCond .eq 9, 3) := by decide +kernel
theorem dX6_book_10 : decode cX6_book 10 = .ok (.aload_n 0, 1) := by decide +kernel
theorem dX6_book_11 : decode cX6_book 11 = .ok (.iload_n 2, 1) := by decide +kernel
theorem dX6_book_12 : decode cX6_book 12 = .ok (.invokevirtual 53, 3) := by decide +kernel
theorem dX6_book_15 : decode cX6_book 15 = .ok (.ireturn, 1) := by decide +kernel
theorem dX6_book_16 : decode cX6_book 16 = .ok (.aload_n 0, 1) := by decide +kernel
theorem dX6_book_17 : decode cX6_book 17 = .ok (.iconst 1, 1) := by decide +kernel
theorem dX6_book_18 : decode cX6_book 18 = .ok (.aload_n 0, 1) := by decide +kernel
theorem dX6_book_19 : decode cX6_book 19 = .ok (.getfield 16, 3) := by decide +kernel
theorem dX6_book_22 : decode cX6_book 22 = .ok (.invokevirtual 135, 3) := by decide +kernel
theorem dX6_book_25 : decode cX6_book 25 = .ok (.iconst 0, 1) := by decide +kernel
theorem dX6_book_26 : decode cX6_book 26 = .ok (.istore_n 3, 1) := by decide +kernel
theorem dX6_book_27 : decode cX6_book 27 = .ok (.iload_n 3, 1) := by decide +kernel
theorem dX6_book_28 : decode cX6_book 28 = .ok (.aload_n 0, 1) := by decide +kernel
theorem dX6_book_29 : decode cX6_book 29 = .ok (.getfield 28, 3) := by decide +kernel
theorem dX6_book_32 : decode cX6_book 32 = .ok (.iload_n 1, 1) := by decide +kernel
theorem dX6_book_33 : decode cX6_book 33 = .ok (.iaload, 1) := by decide +kernel
theorem dX6_book_34 : decode cX6_book 34 = .ok (.if_icmp .ge 40, 3) := by decide +kernel
theorem dX6_book_37 : decode cX6_book 37 = .ok (.aload_n 0, 1) := by decide +kernel
theorem dX6_book_38 : decode cX6_book 38 = .ok (.getfield 31, 3) := by decide +kernel
theorem dX6_book_41 : decode cX6_book 41 = .ok (.bipush 40, 2) := by decide +kernel
theorem dX6_book_43 : decode cX6_book 43 = .ok (.iload_n 1, 1) := by decide +kernel
theorem dX6_book_44 : decode cX6_book 44 = .ok (.imul, 1) := by decide +kernel
theorem dX6_book_45 : decode cX6_book 45 = .ok (.iload_n 3, 1) := by decide +kernel
theorem dX6_book_46 : decode cX6_book 46 = .ok (.iadd, 1) := by decide +kernel
theorem dX6_book_47 : decode cX6_book 47 = .ok (.aload_n 0, 1) := by decide +kernel
theorem dX6_book_48 : decode cX6_book 48 = .ok (.getfield 25, 3) := by decide +kernel
theorem dX6_book_51 : decode cX6_book 51 = .ok (.iload_n 1, 1) := by decide +kernel
theorem dX6_book_52 : decode cX6_book 52 = .ok (.iaload, 1) := by decide +kernel
theorem dX6_book_53 : decode cX6_book 53 = .ok (.aload_n 0, 1) := by decide +kernel
theorem dX6_book_54 : decode cX6_book 54 = .ok (.getfield 7, 3) := by decide +kernel
theorem dX6_book_57 : decode cX6_book 57 = .ok (.iconst 2, 1) := by decide +kernel
theorem dX6_book_58 : decode cX6_book 58 = .ok (.iaload, 1) := by decide +kernel
theorem dX6_book_59 : decode cX6_book 59 = .ok (.i2l, 1) := by decide +kernel
theorem dX6_book_60 : decode cX6_book 60 = .ok (.invokestatic 238, 3) := by decide +kernel
theorem dX6_book_63 : decode cX6_book 63 = .ok (.lastore, 1) := by decide +kernel
theorem dX6_book_64 : decode cX6_book 64 = .ok (.aload_n 0, 1) := by decide +kernel
theorem dX6_book_65 : decode cX6_book 65 = .ok (.invokevirtual 128, 3) := by decide +kernel
theorem dX6_book_68 : decode cX6_book 68 = .ok (.iinc 3 1, 3) := by decide +kernel
theorem dX6_book_71 : decode cX6_book 71 = .ok (.goto (-44), 3) := by decide +kernel
theorem dX6_book_74 : decode cX6_book 74 = .ok (.aload_n 0, 1) := by decide +kernel
theorem dX6_book_75 : decode cX6_book 75 = .ok (.iconst 0, 1) := by decide +kernel
theorem dX6_book_76 : decode cX6_book 76 = .ok (.aload_n 0, 1) := by decide +kernel
theorem dX6_book_77 : decode cX6_book 77 = .ok (.getfield 16, 3) := by decide +kernel
theorem dX6_book_80 : decode cX6_book 80 = .ok (.invokevirtual 135, 3) := by decide +kernel
theorem dX6_book_83 : decode cX6_book 83 = .ok (.aload_n 0, 1) := by decide +kernel
theorem dX6_book_84 : decode cX6_book 84 = .ok (.getfield 28, 3) := by decide +kernel
theorem dX6_book_87 : decode cX6_book 87 = .ok (.iload_n 1, 1) := by decide +kernel
theorem dX6_book_88 : decode cX6_book 88 = .ok (.iaload, 1) := by decide +kernel
theorem dX6_book_89 : decode cX6_book 89 = .ok (.ireturn, 1) := by decide +kernel
theorem dX6_isSo_0 : decode cX6_isSo 0 = .ok (.iconst 1, 1) := by decide +kernel
theorem dX6_isSo_1 : decode cX6_isSo 1 = .ok (.istore_n 3, 1) := by decide +kernel
theorem dX6_isSo_2 : decode cX6_isSo 2 = .ok (.iconst 0, 1) := by decide +kernel
theorem dX6_isSo_3 : decode cX6_isSo 3 = .ok (.istore 4, 2) := by decide +kernel
theorem dX6_isSo_5 : decode cX6_isSo 5 = .ok (.iload 4, 2) := by decide +kernel
theorem dX6_isSo_7 : decode cX6_isSo 7 = .ok (.aload_n 0, 1) := by decide +kernel
theorem dX6_isSo_8 : decode cX6_isSo 8 = .ok (.getfield 28, 3) := by decide +kernel
theorem dX6_isSo_11 : decode cX6_isSo 11 = .ok (.iload_n 1, 1) := by decide +kernel
theorem dX6_isSo_12 : decode cX6_isSo 12 = .ok (.iaload, 1) := by decide +kernel
theorem dX6_isSo_13 : decode cX6_isSo 13 = .ok (.if_icmp .ge 46, 3) := by decide +kernel
theorem dX6_isSo_16 : decode cX6_isSo 16 = .ok (.iload_n 3, 1) := by decide +kernel
theorem dX6_isSo_17 : decode cX6_isSo 17 = .ok (.ifCond .eq 42, 3) := by decide +kernel
theorem dX6_isSo_20 : decode cX6_isSo 20 = .ok (.aload_n 0, 1) := by decide +kernel
theorem dX6_isSo_21 : decode cX6_isSo 21 = .ok (.getfield 31, 3) := by decide +kernel
theorem dX6_isSo_24 : decode cX6_isSo 24 = .ok (.bipush 40, 2) := by decide +kernel
theorem dX6_isSo_26 : decode cX6_isSo 26 = .ok (.iload_n 1, 1) := by decide +kernel
theorem dX6_isSo_27 : decode cX6_isSo 27 = .ok (.imul, 1) := by decide +kernel
theorem dX6_isSo_28 : decode cX6_isSo 28 = .ok (.iload 4, 2) := by decide +kernel
theorem dX6_isSo_30 : decode cX6_isSo 30 = .ok (.iadd, 1) := by decide +kernel
theorem dX6_isSo_31 : decode cX6_isSo 31 = .ok (.laload, 1) := by decide +kernel
theorem dX6_isSo_32 : decode cX6_isSo 32 = .ok (.aload_n 0, 1) := by decide +kernel
theorem dX6_isSo_33 : decode cX6_isSo 33 = .ok (.iload_n 2, 1) := by decide +kernel
theorem dX6_isSo_34 : decode cX6_isSo 34 = .ok (.iconst 3, 1) := by decide +kernel
theorem dX6_isSo_35 : decode cX6_isSo 35 = .ok (.invokevirtual 60, 3) := by decide +kernel
theorem dX6_isSo_38 : decode cX6_isSo 38 = .ok (.i2l, 1) := by decide +kernel
theorem dX6_isSo_39 : decode cX6_isSo 39 = .ok (.lcmp, 1) := by decide +kernel
theorem dX6_isSo_40 : decode cX6_isSo 40 = .ok (.ifCond .ne 7, 3) := by decide +kernel
theorem dX6_isSo_43 : decode cX6_isSo 43 = .ok (.iconst 1, 1) := by decide +kernel
theorem dX6_isSo_44 : decode cX6_isSo 44 = .ok (.goto 4, 3) := by decide +kernel
theorem dX6_isSo_47 : decode cX6_isSo 47 = .ok (.iconst 0, 1) := by decide +kernel
theorem dX6_isSo_48 : decode cX6_isSo 48 = .ok (.istore_n 3, 1) := by decide +kernel
theorem dX6_isSo_49 : decode cX6_isSo 49 = .ok (.aload_n 0, 1) := by decide +kernel
theorem dX6_isSo_50 : decode cX6_isSo 50 = .ok (.invokevirtual 128, 3) := by decide +kernel
theorem dX6_isSo_53 : decode cX6_isSo 53 = .ok (.iinc 4 1, 3) := by decide +kernel
theorem dX6_isSo_56 : decode cX6_isSo 56 = .ok (.goto (-51), 3) := by decide +kernel
theorem dX6_isSo_59 : decode cX6_isSo 59 = .ok (.iload_n 3, 1) := by decide +kernel
theorem dX6_isSo_60 : decode cX6_isSo 60 = .ok (.ireturn, 1) := by decide +kernel
theorem dX6_read_0 : decode cX6_read 0 = .ok (.aload_n 0, 1) := by decide +kernel
theorem dX6_read_1 : decode cX6_read 1 = .ok (.iload_n 1, 1) := by decide +kernel
theorem dX6_read_2 : decode cX6_read 2 = .ok (.invokevirtual 245, 3) := by decide +kernel
theorem dX6_read_5 : decode cX6_read 5 = .ok (.istore_n 3, 1) := by decide +kernel
theorem dX6_read_6 : decode cX6_read 6 = .ok (.iload_n 3, 1) := by decide +kernel
theorem dX6_read_7 : decode cX6_read 7 = .ok (.ifCond .eq 9, 3) := by decide +kernel
theorem dX6_read_10 : decode cX6_read 10 = .ok (.aload_n 0, 1) := by decide +kernel
theorem dX6_read_11 : decode cX6_read 11 = .ok (.iload_n 3, 1) := by decide +kernel
theorem dX6_read_12 : decode cX6_read 12 = .ok (.invokevirtual 53, 3) := by decide +kernel
theorem dX6_read_15 : decode cX6_read 15 = .ok (.ireturn, 1) := by decide +kernel
theorem dX6_read_16 : decode cX6_read 16 = .ok (.aload_n 0, 1) := by decide +kernel
theorem dX6_read_17 : decode cX6_read 17 = .ok (.iload_n 2, 1) := by decide +kernel
theorem dX6_read_18 : decode cX6_read 18 = .ok (.invokevirtual 81, 3) := by decide +kernel
theorem dX6_read_21 : decode cX6_read 21 = .ok (.ifCond .ne 10, 3) := by decide +kernel
theorem dX6_read_24 : decode cX6_read 24 = .ok (.aload_n 0, 1) := by decide +kernel
theorem dX6_read_25 : decode cX6_read 25 = .ok (.ldc 44, 2) := by decide +kernel
theorem dX6_read_27 : decode cX6_read 27 = .ok (.invokevirtual 53, 3) := by decide +kernel
theorem dX6_read_30 : decode cX6_read 30 = .ok (.ireturn, 1) := by decide +kernel
theorem dX6_read_31 : decode cX6_read 31 = .ok (.aload_n 0, 1) := by decide +kernel
theorem dX6_read_32 : decode cX6_read 32 = .ok (.getfield 28, 3) := by decide +kernel
theorem dX6_read_35 : decode cX6_read 35 = .ok (.iload_n 1, 1) := by decide +kernel
theorem dX6_read_36 : decode cX6_read 36 = .ok (.iaload, 1) := by decide +kernel
theorem dX6_read_37 : decode cX6_read 37 = .ok (.bipush 8, 2) := by decide +kernel
theorem dX6_read_39 : decode cX6_read 39 = .ok (.if_icmp .le 10, 3) := by decide +kernel
theorem dX6_read_42 : decode cX6_read 42 = .ok (.aload_n 0, 1) := by decide +kernel
theorem dX6_read_43 : decode cX6_read 43 = .ok (.ldc 236, 2) := by decide +kernel
theorem dX6_read_45 : decode cX6_read 45 = .ok (.invokevirtual 53, 3) := by decide +kernel
theorem dX6_read_48 : decode cX6_read 48 = .ok (.ireturn, 1) := by decide +kernel
theorem dX6_read_49 : decode cX6_read 49 = .ok (.iconst 0, 1) := by decide +kernel
theorem dX6_read_50 : decode cX6_read 50 = .ok (.istore 4, 2) := by decide +kernel
theorem dX6_read_52 : decode cX6_read 52 = .ok (.aload_n 0, 1) := by decide +kernel
theorem dX6_read_53 : decode cX6_read 53 = .ok (.iconst 1, 1) := by decide +kernel
theorem dX6_read_54 : decode cX6_read 54 = .ok (.aload_n 0, 1) := by decide +kernel
theorem dX6_read_55 : decode cX6_read 55 = .ok (.getfield 19, 3) := by decide +kernel
theorem dX6_read_58 : decode cX6_read 58 = .ok (.invokevirtual 135, 3) := by decide +kernel
theorem dX6_read_61 : decode cX6_read 61 = .ok (.iconst 0, 1) := by decide +kernel
theorem dX6_read_62 : decode cX6_read 62 = .ok (.istore 5, 2) := by decide +kernel
theorem dX6_read_64 : decode cX6_read 64 = .ok (.iload 5, 2) := by decide +kernel
theorem dX6_read_66 : decode cX6_read 66 = .ok (.sipush 3072, 3) := by decide +kernel
theorem dX6_read_69 : decode cX6_read 69 = .ok (.if_icmp .ge 61, 3) := by decide +kernel
theorem dX6_read_72 : decode cX6_read 72 = .ok (.aload_n 0, 1) := by decide +kernel
theorem dX6_read_73 : decode cX6_read 73 = .ok (.iload_n 2, 1) := by decide +kernel
theorem dX6_read_74 : decode cX6_read 74 = .ok (.iconst 0, 1) := by decide +kernel
theorem dX6_read_75 : decode cX6_read 75 = .ok (.iload 5, 2) := by decide +kernel
theorem dX6_read_77 : decode cX6_read 77 = .ok (.sipush 512, 3) := by decide +kernel
theorem dX6_read_80 : decode cX6_read 80 = .ok (.idiv, 1) := by decide +kernel
theorem dX6_read_81 : decode cX6_read 81 = .ok (.invokevirtual 70, 3) := by decide +kernel
theorem dX6_read_84 : decode cX6_read 84 = .ok (.aload_n 0, 1) := by decide +kernel
theorem dX6_read_85 : decode cX6_read 85 = .ok (.iload_n 2, 1) := by decide +kernel
theorem dX6_read_86 : decode cX6_read 86 = .ok (.iconst 3, 1) := by decide +kernel
theorem dX6_read_87 : decode cX6_read 87 = .ok (.iload 5, 2) := by decide +kernel
theorem dX6_read_89 : decode cX6_read 89 = .ok (.sipush 512, 3) := by decide +kernel
theorem dX6_read_92 : decode cX6_read 92 = .ok (.irem, 1) := by decide +kernel
theorem dX6_read_93 : decode cX6_read 93 = .ok (.invokevirtual 70, 3) := by decide +kernel
theorem dX6_read_96 : decode cX6_read 96 = .ok (.iload 4, 2) := by decide +kernel
theorem dX6_read_98 : decode cX6_read 98 = .ok (.aload_n 0, 1) := by decide +kernel
theorem dX6_read_99 : decode cX6_read 99 = .ok (.iload_n 1, 1) := by decide +kernel
theorem dX6_read_100 : decode cX6_read 100 = .ok (.iload_n 2, 1) := by decide +kernel
theorem dX6_read_101 : decode cX6_read 101 = .ok (.invokevirtual 250, 3) := by decide +kernel
theorem dX6_read_104 : decode cX6_read 104 = .ok (.ifCond .eq 7, 3) := by decide +kernel
theorem dX6_read_107 : decode cX6_read 107 = .ok (.iconst 1, 1) := by decide +kernel
theorem dX6_read_108 : decode cX6_read 108 = .ok (.goto 4, 3) := by decide +kernel
theorem dX6_read_111 : decode cX6_read 111 = .ok (.iconst 0, 1) := by decide +kernel
theorem dX6_read_112 : decode cX6_read 112 = .ok (.iadd, 1) := by decide +kernel
theorem dX6_read_113 : decode cX6_read 113 = .ok (.istore 4, 2) := by decide +kernel
theorem dX6_read_115 : decode cX6_read 115 = .ok (.aload_n 0, 1) := by decide +kernel
theorem dX6_read_116 : decode cX6_read 116 = .ok (.iconst 0, 1) := by decide +kernel
theorem dX6_read_117 : decode cX6_read 117 = .ok (.aload_n 0, 1) := by decide +kernel
theorem dX6_read_118 : decode cX6_read 118 = .ok (.getfield 19, 3) := by decide +kernel
theorem dX6_read_121 : decode cX6_read 121 = .ok (.invokevirtual 135, 3) := by decide +kernel
theorem dX6_read_124 : decode cX6_read 124 = .ok (.iinc 5 1, 3) := by decide +kernel
theorem dX6_read_127 : decode cX6_read 127 = .ok (.goto (-63), 3) := by decide +kernel
theorem dX6_read_130 : decode cX6_read 130 = .ok (.iload 4, 2) := by decide +kernel
theorem dX6_read_132 : decode cX6_read 132 = .ok (.ireturn, 1) := by decide +kernel
theorem dX6_moveAll_0 : decode cX6_moveAll 0 = .ok (.iconst 0, 1) := by decide +kernel
theorem dX6_moveAll_1 : decode cX6_moveAll 1 = .ok (.istore_n 3, 1) := by decide +kernel
theorem dX6_moveAll_2 : decode cX6_moveAll 2 = .ok (.iload_n 3, 1) := by decide +kernel
theorem dX6_moveAll_3 : decode cX6_moveAll 3 = .ok (.bipush 75, 2) := by decide +kernel
theorem dX6_moveAll_5 : decode cX6_moveAll 5 = .ok (.if_icmp .ge 34, 3) := by decide +kernel
theorem dX6_moveAll_8 : decode cX6_moveAll 8 = .ok (.iload_n 1, 1) := by decide +kernel
theorem dX6_moveAll_9 : decode cX6_moveAll 9 = .ok (.ifCond .eq 15, 3) := by decide +kernel
theorem dX6_moveAll_12 : decode cX6_moveAll 12 = .ok (.aload_n 2, 1) := by decide +kernel
theorem dX6_moveAll_13 : decode cX6_moveAll 13 = .ok (.iload_n 3, 1) := by decide +kernel
theorem dX6_moveAll_14 : decode cX6_moveAll 14 = .ok (.aload_n 0, 1) := by decide +kernel
theorem dX6_moveAll_15 : decode cX6_moveAll 15 = .ok (.getfield 7, 3) := by decide +kernel
theorem dX6_moveAll_18 : decode cX6_moveAll 18 = .ok (.iload_n 3, 1) := by decide +kernel
theorem dX6_moveAll_19 : decode cX6_moveAll 19 = .ok (.iaload, 1) := by decide +kernel
theorem dX6_moveAll_20 : decode cX6_moveAll 20 = .ok (.iastore, 1) := by decide +kernel
theorem dX6_moveAll_21 : decode cX6_moveAll 21 = .ok (.goto 12, 3) := by decide +kernel
theorem dX6_moveAll_24 : decode cX6_moveAll 24 = .ok (.aload_n 0, 1) := by decide +kernel
theorem dX6_moveAll_25 : decode cX6_moveAll 25 = .ok (.getfield 7, 3) := by decide +kernel
theorem dX6_moveAll_28 : decode cX6_moveAll 28 = .ok (.iload_n 3, 1) := by decide +kernel
theorem dX6_moveAll_29 : decode cX6_moveAll 29 = .ok (.aload_n 2, 1) := by decide +kernel
theorem dX6_moveAll_30 : decode cX6_moveAll 30 = .ok (.iload_n 3, 1) := by decide +kernel
theorem dX6_moveAll_31 : decode cX6_moveAll 31 = .ok (.iaload, 1) := by decide +kernel
theorem dX6_moveAll_32 : decode cX6_moveAll 32 = .ok (.iastore, 1) := by decide +kernel
theorem dX6_moveAll_33 : decode cX6_moveAll 33 = .ok (.iinc 3 1, 3) := by decide +kernel
theorem dX6_moveAll_36 : decode cX6_moveAll 36 = .ok (.goto (-34), 3) := by decide +kernel
theorem dX6_moveAll_39 : decode cX6_moveAll 39 = .ok (.return_, 1) := by decide +kernel
theorem dX6_image_0 : decode cX6_image 0 = .ok (.aload_n 0, 1) := by decide +kernel
theorem dX6_image_1 : decode cX6_image 1 = .ok (.iconst 1, 1) := by decide +kernel
theorem dX6_image_2 : decode cX6_image 2 = .ok (.aload_n 0, 1) := by decide +kernel
theorem dX6_image_3 : decode cX6_image 3 = .ok (.getfield 38, 3) := by decide +kernel
theorem dX6_image_6 : decode cX6_image 6 = .ok (.invokevirtual 135, 3) := by decide +kernel
theorem dX6_image_9 : decode cX6_image 9 = .ok (.aload_n 0, 1) := by decide +kernel
theorem dX6_image_10 : decode cX6_image 10 = .ok (.iconst 1, 1) := by decide +kernel
theorem dX6_image_11 : decode cX6_image 11 = .ok (.putfield 254, 3) := by decide +kernel
theorem dX6_image_14 : decode cX6_image 14 = .ok (.iconst 1, 1) := by decide +kernel
theorem dX6_image_15 : decode cX6_image 15 = .ok (.ireturn, 1) := by decide +kernel
theorem dX6_undo_0 : decode cX6_undo 0 = .ok (.aload_n 0, 1) := by decide +kernel
theorem dX6_undo_1 : decode cX6_undo 1 = .ok (.getfield 254, 3) := by decide +kernel
theorem dX6_undo_4 : decode cX6_undo 4 = .ok (.ifCond .ne 10, 3) := by decide +kernel
theorem dX6_undo_7 : decode cX6_undo 7 = .ok (.aload_n 0, 1) := by decide +kernel
theorem dX6_undo_8 : decode cX6_undo 8 = .ok (.ldc 142, 2) := by decide +kernel
theorem dX6_undo_10 : decode cX6_undo 10 = .ok (.invokevirtual 53, 3) := by decide +kernel
theorem dX6_undo_13 : decode cX6_undo 13 = .ok (.ireturn, 1) := by decide +kernel
theorem dX6_undo_14 : decode cX6_undo 14 = .ok (.aload_n 0, 1) := by decide +kernel
theorem dX6_undo_15 : decode cX6_undo 15 = .ok (.iconst 0, 1) := by decide +kernel
theorem dX6_undo_16 : decode cX6_undo 16 = .ok (.aload_n 0, 1) := by decide +kernel
theorem dX6_undo_17 : decode cX6_undo 17 = .ok (.getfield 38, 3) := by decide +kernel
theorem dX6_undo_20 : decode cX6_undo 20 = .ok (.invokevirtual 135, 3) := by decide +kernel
theorem dX6_undo_23 : decode cX6_undo 23 = .ok (.aload_n 0, 1) := by decide +kernel
theorem dX6_undo_24 : decode cX6_undo 24 = .ok (.getfield 7, 3) := by decide +kernel
theorem dX6_undo_27 : decode cX6_undo 27 = .ok (.bipush 6, 2) := by decide +kernel
theorem dX6_undo_29 : decode cX6_undo 29 = .ok (.iaload, 1) := by decide +kernel
theorem dX6_undo_30 : decode cX6_undo 30 = .ok (.ireturn, 1) := by decide +kernel
theorem dX6_tear_0 : decode cX6_tear 0 = .ok (.aload_n 0, 1) := by decide +kernel
theorem dX6_tear_1 : decode cX6_tear 1 = .ok (.getfield 254, 3) := by decide +kernel
theorem dX6_tear_4 : decode cX6_tear 4 = .ok (.ifCond .eq 7, 3) := by decide +kernel
theorem dX6_tear_7 : decode cX6_tear 7 = .ok (.iconst 1, 1) := by decide +kernel
theorem dX6_tear_8 : decode cX6_tear 8 = .ok (.goto 4, 3) := by decide +kernel
theorem dX6_tear_11 : decode cX6_tear 11 = .ok (.iconst 0, 1) := by decide +kernel
theorem dX6_tear_12 : decode cX6_tear 12 = .ok (.istore_n 1, 1) := by decide +kernel
theorem dX6_tear_13 : decode cX6_tear 13 = .ok (.aload_n 0, 1) := by decide +kernel
theorem dX6_tear_14 : decode cX6_tear 14 = .ok (.iconst 0, 1) := by decide +kernel
theorem dX6_tear_15 : decode cX6_tear 15 = .ok (.putfield 254, 3) := by decide +kernel
theorem dX6_tear_18 : decode cX6_tear 18 = .ok (.iload_n 1, 1) := by decide +kernel
theorem dX6_tear_19 : decode cX6_tear 19 = .ok (.ireturn, 1) := by decide +kernel
theorem dX6_count_0 : decode cX6_count 0 = .ok (.iload_n 1, 1) := by decide +kernel
theorem dX6_count_1 : decode cX6_count 1 = .ok (.tableswitch 57 0 3 #[31, 39, 44, 52], 31) := by decide +kernel
theorem dX6_count_32 : decode cX6_count 32 = .ok (.aload_n 0, 1) := by decide +kernel
theorem dX6_count_33 : decode cX6_count 33 = .ok (.getfield 7, 3) := by decide +kernel
theorem dX6_count_36 : decode cX6_count 36 = .ok (.bipush 6, 2) := by decide +kernel
theorem dX6_count_38 : decode cX6_count 38 = .ok (.iaload, 1) := by decide +kernel
theorem dX6_count_39 : decode cX6_count 39 = .ok (.ireturn, 1) := by decide +kernel
theorem dX6_count_40 : decode cX6_count 40 = .ok (.aload_n 0, 1) := by decide +kernel
theorem dX6_count_41 : decode cX6_count 41 = .ok (.getfield 146, 3) := by decide +kernel
theorem dX6_count_44 : decode cX6_count 44 = .ok (.ireturn, 1) := by decide +kernel
theorem dX6_count_45 : decode cX6_count 45 = .ok (.aload_n 0, 1) := by decide +kernel
theorem dX6_count_46 : decode cX6_count 46 = .ok (.invokevirtual 100, 3) := by decide +kernel
theorem dX6_count_49 : decode cX6_count 49 = .ok (.invokestatic 104, 3) := by decide +kernel
theorem dX6_count_52 : decode cX6_count 52 = .ok (.ireturn, 1) := by decide +kernel
theorem dX6_count_53 : decode cX6_count 53 = .ok (.aload_n 0, 1) := by decide +kernel
theorem dX6_count_54 : decode cX6_count 54 = .ok (.invokevirtual 257, 3) := by decide +kernel
theorem dX6_count_57 : decode cX6_count 57 = .ok (.ireturn, 1) := by decide +kernel
theorem dX6_count_58 : decode cX6_count 58 = .ok (.aload_n 0, 1) := by decide +kernel
theorem dX6_count_59 : decode cX6_count 59 = .ok (.ldc 44, 2) := by decide +kernel
theorem dX6_count_61 : decode cX6_count 61 = .ok (.invokevirtual 53, 3) := by decide +kernel
theorem dX6_count_64 : decode cX6_count 64 = .ok (.ireturn, 1) := by decide +kernel
theorem dX6_galesOf_0 : decode cX6_galesOf 0 = .ok (.iconst 0, 1) := by decide +kernel
theorem dX6_galesOf_1 : decode cX6_galesOf 1 = .ok (.istore_n 1, 1) := by decide +kernel
theorem dX6_galesOf_2 : decode cX6_galesOf 2 = .ok (.iconst 0, 1) := by decide +kernel
theorem dX6_galesOf_3 : decode cX6_galesOf 3 = .ok (.istore_n 2, 1) := by decide +kernel
theorem dX6_galesOf_4 : decode cX6_galesOf 4 = .ok (.iload_n 2, 1) := by decide +kernel
theorem dX6_galesOf_5 : decode cX6_galesOf 5 = .ok (.bipush 28, 2) := by decide +kernel
theorem dX6_galesOf_7 : decode cX6_galesOf 7 = .ok (.if_icmp .ge 25, 3) := by decide +kernel
theorem dX6_galesOf_10 : decode cX6_galesOf 10 = .ok (.iload_n 1, 1) := by decide +kernel
theorem dX6_galesOf_11 : decode cX6_galesOf 11 = .ok (.aload_n 0, 1) := by decide +kernel
theorem dX6_galesOf_12 : decode cX6_galesOf 12 = .ok (.iload_n 2, 1) := by decide +kernel
theorem dX6_galesOf_13 : decode cX6_galesOf 13 = .ok (.invokevirtual 57, 3) := by decide +kernel
theorem dX6_galesOf_16 : decode cX6_galesOf 16 = .ok (.ifCond .le 7, 3) := by decide +kernel
theorem dX6_galesOf_19 : decode cX6_galesOf 19 = .ok (.iconst 1, 1) := by decide +kernel
theorem dX6_galesOf_20 : decode cX6_galesOf 20 = .ok (.goto 4, 3) := by decide +kernel
theorem dX6_galesOf_23 : decode cX6_galesOf 23 = .ok (.iconst 0, 1) := by decide +kernel
theorem dX6_galesOf_24 : decode cX6_galesOf 24 = .ok (.iadd, 1) := by decide +kernel
theorem dX6_galesOf_25 : decode cX6_galesOf 25 = .ok (.istore_n 1, 1) := by decide +kernel
theorem dX6_galesOf_26 : decode cX6_galesOf 26 = .ok (.iinc 2 1, 3) := by decide +kernel
theorem dX6_galesOf_29 : decode cX6_galesOf 29 = .ok (.goto (-25), 3) := by decide +kernel
theorem dX6_galesOf_32 : decode cX6_galesOf 32 = .ok (.iload_n 1, 1) := by decide +kernel
theorem dX6_galesOf_33 : decode cX6_galesOf 33 = .ok (.ireturn, 1) := by decide +kernel
theorem dX6_status_0 : decode cX6_status 0 = .ok (.iload_n 1, 1) := by decide +kernel
theorem dX6_status_1 : decode cX6_status 1 = .ok (.iconst (-1), 1) := by decide +kernel
theorem dX6_status_2 : decode cX6_status 2 = .ok (.bipush 6, 2) := by decide +kernel
theorem dX6_status_4 : decode cX6_status 4 = .ok (.invokestatic 45, 3) := by decide +kernel
theorem dX6_status_7 : decode cX6_status 7 = .ok (.ifCond .ne 10, 3) := by decide +kernel
theorem dX6_status_10 : decode cX6_status 10 = .ok (.aload_n 0, 1) := by decide +kernel
theorem dX6_status_11 : decode cX6_status 11 = .ok (.ldc 44, 2) := by decide +kernel
theorem dX6_status_13 : decode cX6_status 13 = .ok (.invokevirtual 53, 3) := by decide +kernel
theorem dX6_status_16 : decode cX6_status 16 = .ok (.ireturn, 1) := by decide +kernel
theorem dX6_status_17 : decode cX6_status 17 = .ok (.iconst 0, 1) := by decide +kernel
theorem dX6_status_18 : decode cX6_status 18 = .ok (.istore_n 2, 1) := by decide +kernel
theorem dX6_status_19 : decode cX6_status 19 = .ok (.iconst 0, 1) := by decide +kernel
theorem dX6_status_20 : decode cX6_status 20 = .ok (.istore_n 3, 1) := by decide +kernel
theorem dX6_status_21 : decode cX6_status 21 = .ok (.iload_n 3, 1) := by decide +kernel
theorem dX6_status_22 : decode cX6_status 22 = .ok (.bipush 7, 2) := by decide +kernel
theorem dX6_status_24 : decode cX6_status 24 = .ok (.if_icmp .ge 18, 3) := by decide +kernel
theorem dX6_status_27 : decode cX6_status 27 = .ok (.iload_n 2, 1) := by decide +kernel
theorem dX6_status_28 : decode cX6_status 28 = .ok (.aload_n 0, 1) := by decide +kernel
theorem dX6_status_29 : decode cX6_status 29 = .ok (.getfield 13, 3) := by decide +kernel
theorem dX6_status_32 : decode cX6_status 32 = .ok (.iload_n 3, 1) := by decide +kernel
theorem dX6_status_33 : decode cX6_status 33 = .ok (.iaload, 1) := by decide +kernel
theorem dX6_status_34 : decode cX6_status 34 = .ok (.iadd, 1) := by decide +kernel
theorem dX6_status_35 : decode cX6_status 35 = .ok (.istore_n 2, 1) := by decide +kernel
theorem dX6_status_36 : decode cX6_status 36 = .ok (.iinc 3 1, 3) := by decide +kernel
theorem dX6_status_39 : decode cX6_status 39 = .ok (.goto (-18), 3) := by decide +kernel
theorem dX6_status_42 : decode cX6_status 42 = .ok (.iload_n 1, 1) := by decide +kernel
theorem dX6_status_43 : decode cX6_status 43 = .ok (.ifCond .ge 7, 3) := by decide +kernel
theorem dX6_status_46 : decode cX6_status 46 = .ok (.iload_n 2, 1) := by decide +kernel
theorem dX6_status_47 : decode cX6_status 47 = .ok (.goto 17, 3) := by decide +kernel
theorem dX6_status_50 : decode cX6_status 50 = .ok (.aload_n 0, 1) := by decide +kernel
theorem dX6_status_51 : decode cX6_status 51 = .ok (.getfield 13, 3) := by decide +kernel
theorem dX6_status_54 : decode cX6_status 54 = .ok (.iload_n 1, 1) := by decide +kernel
theorem dX6_status_55 : decode cX6_status 55 = .ok (.ifCond .ge 7, 3) := by decide +kernel
theorem dX6_status_58 : decode cX6_status 58 = .ok (.iconst 0, 1) := by decide +kernel
theorem dX6_status_59 : decode cX6_status 59 = .ok (.goto 4, 3) := by decide +kernel
theorem dX6_status_62 : decode cX6_status 62 = .ok (.iload_n 1, 1) := by decide +kernel
theorem dX6_status_63 : decode cX6_status 63 = .ok (.iaload, 1) := by decide +kernel
theorem dX6_status_64 : decode cX6_status 64 = .ok (.ireturn, 1) := by decide +kernel
