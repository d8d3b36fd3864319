theorem dX3_init_0 : decode cX3_init 0 = .ok (.aload_n 0, 1) := by decide +kernel
theorem dX3_init_1 : decode cX3_init 1 = .ok (.invokespecial 3, 3) := by decide +kernel
theorem dX3_init_4 : decode cX3_init 4 = .ok (.aload_n 0, 1) := by decide +kernel
theorem dX3_init_5 : decode cX3_init 5 = .ok (.bipush 120, 2) := by decide +kernel
theorem dX3_init_7 : decode cX3_init 7 = .ok (.newarray .int, 2) := by decide +kernel
theorem dX3_init_9 : decode cX3_init 9 = .ok (.putfield 9, 3) := by decide +kernel
theorem dX3_init_12 : decode cX3_init 12 = .ok (.aload_n 0, 1) := by decide +kernel
theorem dX3_init_13 : decode cX3_init 13 = .ok (.iconst 0, 1) := by decide +kernel
theorem dX3_init_14 : decode cX3_init 14 = .ok (.putfield 15, 3) := by decide +kernel
theorem dX3_init_17 : decode cX3_init 17 = .ok (.aload_n 0, 1) := by decide +kernel
theorem dX3_init_18 : decode cX3_init 18 = .ok (.iconst 0, 1) := by decide +kernel
theorem dX3_init_19 : decode cX3_init 19 = .ok (.putfield 19, 3) := by decide +kernel
theorem dX3_init_22 : decode cX3_init 22 = .ok (.aload_n 0, 1) := by decide +kernel
theorem dX3_init_23 : decode cX3_init 23 = .ok (.iconst 0, 1) := by decide +kernel
theorem dX3_init_24 : decode cX3_init 24 = .ok (.putfield 22, 3) := by decide +kernel
theorem dX3_init_27 : decode cX3_init 27 = .ok (.aload_n 0, 1) := by decide +kernel
theorem dX3_init_28 : decode cX3_init 28 = .ok (.iconst 0, 1) := by decide +kernel
theorem dX3_init_29 : decode cX3_init 29 = .ok (.putfield 25, 3) := by decide +kernel
theorem dX3_init_32 : decode cX3_init 32 = .ok (.aload_n 0, 1) := by decide +kernel
theorem dX3_init_33 : decode cX3_init 33 = .ok (.iconst 0, 1) := by decide +kernel
theorem dX3_init_34 : decode cX3_init 34 = .ok (.putfield 28, 3) := by decide +kernel
theorem dX3_init_37 : decode cX3_init 37 = .ok (.return_, 1) := by decide +kernel
theorem dX3_append_0 : decode cX3_append 0 = .ok (.aload_n 0, 1) := by decide +kernel
theorem dX3_append_1 : decode cX3_append 1 = .ok (.getfield 15, 3) := by decide +kernel
theorem dX3_append_4 : decode cX3_append 4 = .ok (.bipush 120, 2) := by decide +kernel
theorem dX3_append_6 : decode cX3_append 6 = .ok (.if_icmp .ge 23, 3) := by decide +kernel
theorem dX3_append_9 : decode cX3_append 9 = .ok (.aload_n 0, 1) := by decide +kernel
theorem dX3_append_10 : decode cX3_append 10 = .ok (.getfield 9, 3) := by decide +kernel
theorem dX3_append_13 : decode cX3_append 13 = .ok (.aload_n 0, 1) := by decide +kernel
theorem dX3_append_14 : decode cX3_append 14 = .ok (.getfield 15, 3) := by decide +kernel
theorem dX3_append_17 : decode cX3_append 17 = .ok (.iload_n 1, 1) := by decide +kernel
theorem dX3_append_18 : decode cX3_append 18 = .ok (.iastore, 1) := by decide +kernel
theorem dX3_append_19 : decode cX3_append 19 = .ok (.aload_n 0, 1) := by decide +kernel
theorem dX3_append_20 : decode cX3_append 20 = .ok (.dup, 1) := by decide +kernel
theorem dX3_append_21 : decode cX3_append 21 = .ok (.getfield 15, 3) := by decide +kernel
theorem dX3_append_24 : decode cX3_append 24 = .ok (.iconst 1, 1) := by decide +kernel
theorem dX3_append_25 : decode cX3_append 25 = .ok (.iadd, 1) := by decide +kernel
theorem dX3_append_26 : decode cX3_append 26 = .ok (.putfield 15, 3) := by decide +kernel
theorem dX3_append_29 : decode cX3_append 29 = .ok (.return_, 1) := by decide +kernel
theorem dX3_goToFirstToken_0 : decode cX3_goToFirstToken 0 = .ok (.aload_n 0, 1) := by decide +kernel
theorem dX3_goToFirstToken_1 : decode cX3_goToFirstToken 1 = .ok (.iconst 0, 1) := by decide +kernel
theorem dX3_goToFirstToken_2 : decode cX3_goToFirstToken 2 = .ok (.putfield 25, 3) := by decide +kernel
theorem dX3_goToFirstToken_5 : decode cX3_goToFirstToken 5 = .ok (.aload_n 0, 1) := by decide +kernel
theorem dX3_goToFirstToken_6 : decode cX3_goToFirstToken 6 = .ok (.invokevirtual 31, 3) := by decide +kernel
theorem dX3_goToFirstToken_9 : decode cX3_goToFirstToken 9 = .ok (.return_, 1) := by decide +kernel
theorem dX3_goToNextToken_0 : decode cX3_goToNextToken 0 = .ok (.aload_n 0, 1) := by decide +kernel
theorem dX3_goToNextToken_1 : decode cX3_goToNextToken 1 = .ok (.aload_n 0, 1) := by decide +kernel
theorem dX3_goToNextToken_2 : decode cX3_goToNextToken 2 = .ok (.getfield 25, 3) := by decide +kernel
theorem dX3_goToNextToken_5 : decode cX3_goToNextToken 5 = .ok (.putfield 22, 3) := by decide +kernel
theorem dX3_goToNextToken_8 : decode cX3_goToNextToken 8 = .ok (.aload_n 0, 1) := by decide +kernel
theorem dX3_goToNextToken_9 : decode cX3_goToNextToken 9 = .ok (.getfield 22, 3) := by decide +kernel
theorem dX3_goToNextToken_12 : decode cX3_goToNextToken 12 = .ok (.aload_n 0, 1) := by decide +kernel
theorem dX3_goToNextToken_13 : decode cX3_goToNextToken 13 = .ok (.getfield 15, 3) := by decide +kernel
theorem dX3_goToNextToken_16 : decode cX3_goToNextToken 16 = .ok (.if_icmp .ge 30, 3) := by decide +kernel
theorem dX3_goToNextToken_19 : decode cX3_goToNextToken 19 = .ok (.aload_n 0, 1) := by decide +kernel
theorem dX3_goToNextToken_20 : decode cX3_goToNextToken 20 = .ok (.getfield 9, 3) := by decide +kernel
theorem dX3_goToNextToken_23 : decode cX3_goToNextToken 23 = .ok (.aload_n 0, 1) := by decide +kernel
theorem dX3_goToNextToken_24 : decode cX3_goToNextToken 24 = .ok (.getfield 22, 3) := by decide +kernel
theorem dX3_goToNextToken_27 : decode cX3_goToNextToken 27 = .ok (.iaload, 1) := by decide +kernel
theorem dX3_goToNextToken_28 : decode cX3_goToNextToken 28 = .ok (.bipush 32, 2) := by decide +kernel
theorem dX3_goToNextToken_30 : decode cX3_goToNextToken 30 = .ok (.if_icmp .ne 16, 3) := by decide +kernel
theorem dX3_goToNextToken_33 : decode cX3_goToNextToken 33 = .ok (.aload_n 0, 1) := by decide +kernel
theorem dX3_goToNextToken_34 : decode cX3_goToNextToken 34 = .ok (.dup, 1) := by decide +kernel
theorem dX3_goToNextToken_35 : decode cX3_goToNextToken 35 = .ok (.getfield 22, 3) := by decide +kernel
theorem dX3_goToNextToken_38 : decode cX3_goToNextToken 38 = .ok (.iconst 1, 1) := by decide +kernel
theorem dX3_goToNextToken_39 : decode cX3_goToNextToken 39 = .ok (.iadd, 1) := by decide +kernel
theorem dX3_goToNextToken_40 : decode cX3_goToNextToken 40 = .ok (.putfield 22, 3) := by decide +kernel
theorem dX3_goToNextToken_43 : decode cX3_goToNextToken 43 = .ok (.goto (-35), 3) := by decide +kernel
theorem dX3_goToNextToken_46 : decode cX3_goToNextToken 46 = .ok (.aload_n 0, 1) := by decide +kernel
theorem dX3_goToNextToken_47 : decode cX3_goToNextToken 47 = .ok (.aload_n 0, 1) := by decide +kernel
theorem dX3_goToNextToken_48 : decode cX3_goToNextToken 48 = .ok (.getfield 22, 3) := by decide +kernel
theorem dX3_goToNextToken_51 : decode cX3_goToNextToken 51 = .ok (.aload_n 0, 1) := by decide +kernel
theorem dX3_goToNextToken_52 : decode cX3_goToNextToken 52 = .ok (.getfield 15, 3) := by decide +kernel
theorem dX3_goToNextToken_55 : decode cX3_goToNextToken 55 = .ok (.if_icmp .ge 18, 3) := by decide +kernel
theorem dX3_goToNextToken_58 : decode cX3_goToNextToken 58 = .ok (.aload_n 0, 1) := by decide +kernel
theorem dX3_goToNextToken_59 : decode cX3_goToNextToken 59 = .ok (.getfield 9, 3) := by decide +kernel
theorem dX3_goToNextToken_62 : decode cX3_goToNextToken 62 = .ok (.aload_n 0, 1) := by decide +kernel
theorem dX3_goToNextToken_63 : decode cX3_goToNextToken 63 = .ok (.getfield 22, 3) := by decide +kernel
theorem dX3_goToNextToken_66 : decode cX3_goToNextToken 66 = .ok (.iaload, 1) := by decide +kernel
theorem dX3_goToNextToken_67 : decode cX3_goToNextToken 67 = .ok (.invokestatic 34, 3) := by decide +kernel
theorem dX3_goToNextToken_70 : decode cX3_goToNextToken 70 = .ok (.goto 4, 3) := by decide +kernel
theorem dX3_goToNextToken_73 : decode cX3_goToNextToken 73 = .ok (.iconst 0, 1) := by decide +kernel
theorem dX3_goToNextToken_74 : decode cX3_goToNextToken 74 = .ok (.putfield 19, 3) := by decide +kernel
theorem dX3_goToNextToken_77 : decode cX3_goToNextToken 77 = .ok (.aload_n 0, 1) := by decide +kernel
theorem dX3_goToNextToken_78 : decode cX3_goToNextToken 78 = .ok (.iconst 0, 1) := by decide +kernel
theorem dX3_goToNextToken_79 : decode cX3_goToNextToken 79 = .ok (.putfield 28, 3) := by decide +kernel
theorem dX3_goToNextToken_82 : decode cX3_goToNextToken 82 = .ok (.aload_n 0, 1) := by decide +kernel
theorem dX3_goToNextToken_83 : decode cX3_goToNextToken 83 = .ok (.aload_n 0, 1) := by decide +kernel
theorem dX3_goToNextToken_84 : decode cX3_goToNextToken 84 = .ok (.getfield 22, 3) := by decide +kernel
theorem dX3_goToNextToken_87 : decode cX3_goToNextToken 87 = .ok (.putfield 25, 3) := by decide +kernel
theorem dX3_goToNextToken_90 : decode cX3_goToNextToken 90 = .ok (.aload_n 0, 1) := by decide +kernel
theorem dX3_goToNextToken_91 : decode cX3_goToNextToken 91 = .ok (.getfield 25, 3) := by decide +kernel
theorem dX3_goToNextToken_94 : decode cX3_goToNextToken 94 = .ok (.aload_n 0, 1) := by decide +kernel
theorem dX3_goToNextToken_95 : decode cX3_goToNextToken 95 = .ok (.getfield 15, 3) := by decide +kernel
theorem dX3_goToNextToken_98 : decode cX3_goToNextToken 98 = .ok (.if_icmp .ge 73, 3) := by decide +kernel
theorem dX3_goToNextToken_101 : decode cX3_goToNextToken 101 = .ok (.aload_n 0, 1) := by decide +kernel
theorem dX3_goToNextToken_102 : decode cX3_goToNextToken 102 = .ok (.getfield 9, 3) := by decide +kernel
theorem dX3_goToNextToken_105 : decode cX3_goToNextToken 105 = .ok (.aload_n 0, 1) := by decide +kernel
theorem dX3_goToNextToken_106 : decode cX3_goToNextToken 106 = .ok (.getfield 25, 3) := by decide +kernel
theorem dX3_goToNextToken_109 : decode cX3_goToNextToken 109 = .ok (.iaload, 1) := by decide +kernel
theorem dX3_goToNextToken_110 : decode cX3_goToNextToken 110 = .ok (.invokestatic 34, 3) := by decide +kernel
theorem dX3_goToNextToken_113 : decode cX3_goToNextToken 113 = .ok (.aload_n 0, 1) := by decide +kernel
theorem dX3_goToNextToken_114 : decode cX3_goToNextToken 114 = .ok (.getfield 19, 3) := by decide +kernel
theorem dX3_goToNextToken_117 : decode cX3_goToNextToken 117 = .ok (.if_icmp .ne 54, 3) := by decide +kernel
theorem dX3_goToNextToken_120 : decode cX3_goToNextToken 120 = .ok (.aload_n 0, 1) := by decide +kernel
theorem dX3_goToNextToken_121 : decode cX3_goToNextToken 121 = .ok (.getfield 19, 3) := by decide +kernel
theorem dX3_goToNextToken_124 : decode cX3_goToNextToken 124 = .ok (.iconst 2, 1) := by decide +kernel
theorem dX3_goToNextToken_125 : decode cX3_goToNextToken 125 = .ok (.if_icmp .ne 33, 3) := by decide +kernel
theorem dX3_goToNextToken_128 : decode cX3_goToNextToken 128 = .ok (.aload_n 0, 1) := by decide +kernel
theorem dX3_goToNextToken_129 : decode cX3_goToNextToken 129 = .ok (.sipush 10000, 3) := by decide +kernel
theorem dX3_goToNextToken_132 : decode cX3_goToNextToken 132 = .ok (.bipush 10, 2) := by decide +kernel
theorem dX3_goToNextToken_134 : decode cX3_goToNextToken 134 = .ok (.aload_n 0, 1) := by decide +kernel
theorem dX3_goToNextToken_135 : decode cX3_goToNextToken 135 = .ok (.getfield 28, 3) := by decide +kernel
theorem dX3_goToNextToken_138 : decode cX3_goToNextToken 138 = .ok (.imul, 1) := by decide +kernel
theorem dX3_goToNextToken_139 : decode cX3_goToNextToken 139 = .ok (.aload_n 0, 1) := by decide +kernel
theorem dX3_goToNextToken_140 : decode cX3_goToNextToken 140 = .ok (.getfield 9, 3) := by decide +kernel
theorem dX3_goToNextToken_143 : decode cX3_goToNextToken 143 = .ok (.aload_n 0, 1) := by decide +kernel
theorem dX3_goToNextToken_144 : decode cX3_goToNextToken 144 = .ok (.getfield 25, 3) := by decide +kernel
theorem dX3_goToNextToken_147 : decode cX3_goToNextToken 147 = .ok (.iaload, 1) := by decide +kernel
theorem dX3_goToNextToken_148 : decode cX3_goToNextToken 148 = .ok (.iadd, 1) := by decide +kernel
theorem dX3_goToNextToken_149 : decode cX3_goToNextToken 149 = .ok (.bipush 48, 2) := by decide +kernel
theorem dX3_goToNextToken_151 : decode cX3_goToNextToken 151 = .ok (.isub, 1) := by decide +kernel
theorem dX3_goToNextToken_152 : decode cX3_goToNextToken 152 = .ok (.invokestatic 38, 3) := by decide +kernel
theorem dX3_goToNextToken_155 : decode cX3_goToNextToken 155 = .ok (.putfield 28, 3) := by decide +kernel
theorem dX3_goToNextToken_158 : decode cX3_goToNextToken 158 = .ok (.aload_n 0, 1) := by decide +kernel
theorem dX3_goToNextToken_159 : decode cX3_goToNextToken 159 = .ok (.dup, 1) := by decide +kernel
theorem dX3_goToNextToken_160 : decode cX3_goToNextToken 160 = .ok (.getfield 25, 3) := by decide +kernel
theorem dX3_goToNextToken_163 : decode cX3_goToNextToken 163 = .ok (.iconst 1, 1) := by decide +kernel
theorem dX3_goToNextToken_164 : decode cX3_goToNextToken 164 = .ok (.iadd, 1) := by decide +kernel
theorem dX3_goToNextToken_165 : decode cX3_goToNextToken 165 = .ok (.putfield 25, 3) := by decide +kernel
theorem dX3_goToNextToken_168 : decode cX3_goToNextToken 168 = .ok (.goto (-78), 3) := by decide +kernel
theorem dX3_goToNextToken_171 : decode cX3_goToNextToken 171 = .ok (.aload_n 0, 1) := by decide +kernel
theorem dX3_goToNextToken_172 : decode cX3_goToNextToken 172 = .ok (.getfield 19, 3) := by decide +kernel
theorem dX3_goToNextToken_175 : decode cX3_goToNextToken 175 = .ok (.iconst 3, 1) := by decide +kernel
theorem dX3_goToNextToken_176 : decode cX3_goToNextToken 176 = .ok (.if_icmp .ne 13, 3) := by decide +kernel
theorem dX3_goToNextToken_179 : decode cX3_goToNextToken 179 = .ok (.aload_n 0, 1) := by decide +kernel
theorem dX3_goToNextToken_180 : decode cX3_goToNextToken 180 = .ok (.aload_n 0, 1) := by decide +kernel
theorem dX3_goToNextToken_181 : decode cX3_goToNextToken 181 = .ok (.getfield 22, 3) := by decide +kernel
theorem dX3_goToNextToken_184 : decode cX3_goToNextToken 184 = .ok (.iconst 1, 1) := by decide +kernel
theorem dX3_goToNextToken_185 : decode cX3_goToNextToken 185 = .ok (.iadd, 1) := by decide +kernel
theorem dX3_goToNextToken_186 : decode cX3_goToNextToken 186 = .ok (.putfield 25, 3) := by decide +kernel
theorem dX3_goToNextToken_189 : decode cX3_goToNextToken 189 = .ok (.return_, 1) := by decide +kernel
theorem dX3_sortOf_0 : decode cX3_sortOf 0 = .ok (.iload_n 0, 1) := by decide +kernel
theorem dX3_sortOf_1 : decode cX3_sortOf 1 = .ok (.bipush 97, 2) := by decide +kernel
theorem dX3_sortOf_3 : decode cX3_sortOf 3 = .ok (.if_icmp .lt 11, 3) := by decide +kernel
theorem dX3_sortOf_6 : decode cX3_sortOf 6 = .ok (.iload_n 0, 1) := by decide +kernel
theorem dX3_sortOf_7 : decode cX3_sortOf 7 = .ok (.bipush 122, 2) := by decide +kernel
theorem dX3_sortOf_9 : decode cX3_sortOf 9 = .ok (.if_icmp .gt 5, 3) := by decide +kernel
theorem dX3_sortOf_12 : decode cX3_sortOf 12 = .ok (.iconst 1, 1) := by decide +kernel
theorem dX3_sortOf_13 : decode cX3_sortOf 13 = .ok (.ireturn, 1) := by decide +kernel
theorem dX3_sortOf_14 : decode cX3_sortOf 14 = .ok (.iload_n 0, 1) := by decide +kernel
theorem dX3_sortOf_15 : decode cX3_sortOf 15 = .ok (.bipush 48, 2) := by decide +kernel
theorem dX3_sortOf_17 : decode cX3_sortOf 17 = .ok (.if_icmp .lt 11, 3) := by decide +kernel
theorem dX3_sortOf_20 : decode cX3_sortOf 20 = .ok (.iload_n 0, 1) := by decide +kernel
theorem dX3_sortOf_21 : decode cX3_sortOf 21 = .ok (.bipush 57, 2) := by decide +kernel
theorem dX3_sortOf_23 : decode cX3_sortOf 23 = .ok (.if_icmp .gt 5, 3) := by decide +kernel
theorem dX3_sortOf_26 : decode cX3_sortOf 26 = .ok (.iconst 2, 1) := by decide +kernel
theorem dX3_sortOf_27 : decode cX3_sortOf 27 = .ok (.ireturn, 1) := by decide +kernel
theorem dX3_sortOf_28 : decode cX3_sortOf 28 = .ok (.iload_n 0, 1) := by decide +kernel
theorem dX3_sortOf_29 : decode cX3_sortOf 29 = .ok (.bipush 59, 2) := by decide +kernel
theorem dX3_sortOf_31 : decode cX3_sortOf 31 = .ok (.if_icmp .ne 7, 3) := by decide +kernel
theorem dX3_sortOf_34 : decode cX3_sortOf 34 = .ok (.iconst 3, 1) := by decide +kernel
theorem dX3_sortOf_35 : decode cX3_sortOf 35 = .ok (.goto 4, 3) := by decide +kernel
theorem dX3_sortOf_38 : decode cX3_sortOf 38 = .ok (.iconst 4, 1) := by decide +kernel
theorem dX3_sortOf_39 : decode cX3_sortOf 39 = .ok (.ireturn, 1) := by decide +kernel
theorem dX3_showsWord_0 : decode cX3_showsWord 0 = .ok (.aload_n 0, 1) := by decide +kernel
theorem dX3_showsWord_1 : decode cX3_showsWord 1 = .ok (.getfield 19, 3) := by decide +kernel
theorem dX3_showsWord_4 : decode cX3_showsWord 4 = .ok (.iconst 1, 1) := by decide +kernel
theorem dX3_showsWord_5 : decode cX3_showsWord 5 = .ok (.if_icmp .ne 19, 3) := by decide +kernel
theorem dX3_showsWord_8 : decode cX3_showsWord 8 = .ok (.aload_n 0, 1) := by decide +kernel
theorem dX3_showsWord_9 : decode cX3_showsWord 9 = .ok (.getfield 25, 3) := by decide +kernel
theorem dX3_showsWord_12 : decode cX3_showsWord 12 = .ok (.aload_n 0, 1) := by decide +kernel
theorem dX3_showsWord_13 : decode cX3_showsWord 13 = .ok (.getfield 22, 3) := by decide +kernel
theorem dX3_showsWord_16 : decode cX3_showsWord 16 = .ok (.isub, 1) := by decide +kernel
theorem dX3_showsWord_17 : decode cX3_showsWord 17 = .ok (.aload_n 1, 1) := by decide +kernel
theorem dX3_showsWord_18 : decode cX3_showsWord 18 = .ok (.invokevirtual 44, 3) := by decide +kernel
theorem dX3_showsWord_21 : decode cX3_showsWord 21 = .ok (.if_icmp .eq 5, 3) := by decide +kernel
theorem dX3_showsWord_24 : decode cX3_showsWord 24 = .ok (.iconst 0, 1) := by decide +kernel
theorem dX3_showsWord_25 : decode cX3_showsWord 25 = .ok (.ireturn, 1) := by decide +kernel
theorem dX3_showsWord_26 : decode cX3_showsWord 26 = .ok (.iconst 0, 1) := by decide +kernel
theorem dX3_showsWord_27 : decode cX3_showsWord 27 = .ok (.istore_n 2, 1) := by decide +kernel
theorem dX3_showsWord_28 : decode cX3_showsWord 28 = .ok (.iload_n 2, 1) := by decide +kernel
theorem dX3_showsWord_29 : decode cX3_showsWord 29 = .ok (.aload_n 1, 1) := by decide +kernel
theorem dX3_showsWord_30 : decode cX3_showsWord 30 = .ok (.invokevirtual 44, 3) := by decide +kernel
theorem dX3_showsWord_33 : decode cX3_showsWord 33 = .ok (.if_icmp .ge 30, 3) := by decide +kernel
theorem dX3_showsWord_36 : decode cX3_showsWord 36 = .ok (.aload_n 0, 1) := by decide +kernel
theorem dX3_showsWord_37 : decode cX3_showsWord 37 = .ok (.getfield 9, 3) := by decide +kernel
theorem dX3_showsWord_40 : decode cX3_showsWord 40 = .ok (.aload_n 0, 1) := by decide +kernel
theorem dX3_showsWord_41 : decode cX3_showsWord 41 = .ok (.getfield 22, 3) := by decide +kernel
theorem dX3_showsWord_44 : decode cX3_showsWord 44 = .ok (.iload_n 2, 1) := by decide +kernel
theorem dX3_showsWord_45 : decode cX3_showsWord 45 = .ok (.iadd, 1) := by decide +kernel
theorem dX3_showsWord_46 : decode cX3_showsWord 46 = .ok (.iaload, 1) := by decide +kernel
theorem dX3_showsWord_47 : decode cX3_showsWord 47 = .ok (.aload_n 1, 1) := by decide +kernel
theorem dX3_showsWord_48 : decode cX3_showsWord 48 = .ok (.iload_n 2, 1) := by decide +kernel
theorem dX3_showsWord_49 : decode cX3_showsWord 49 = .ok (.invokevirtual 49, 3) := by decide +kernel
theorem dX3_showsWord_52 : decode cX3_showsWord 52 = .ok (.if_icmp .eq 5, 3) := by decide +kernel
theorem dX3_showsWord_55 : decode cX3_showsWord 55 = .ok (.iconst 0, 1) := by decide +kernel
theorem dX3_showsWord_56 : decode cX3_showsWord 56 = .ok (.ireturn, 1) := by decide +kernel
theorem dX3_showsWord_57 : decode cX3_showsWord 57 = .ok (.iinc 2 1, 3) := by decide +kernel
theorem dX3_showsWord_60 : decode cX3_showsWord 60 = .ok (.goto (-32), 3) := by decide +kernel
theorem dX3_showsWord_63 : decode cX3_showsWord 63 = .ok (.iconst 1, 1) := by decide +kernel
theorem dX3_showsWord_64 : decode cX3_showsWord 64 = .ok (.ireturn, 1) := by decide +kernel
theorem dX3_takeWord_0 : decode cX3_takeWord 0 = .ok (.aload_n 0, 1) := by decide +kernel
theorem dX3_takeWord_1 : decode cX3_takeWord 1 = .ok (.aload_n 1, 1) := by decide +kernel
theorem dX3_takeWord_2 : decode cX3_takeWord 2 = .ok (.invokevirtual 53, 3) := by decide +kernel
theorem dX3_takeWord_5 : decode cX3_takeWord 5 = .ok (.ifCond .ne 5, 3) := by decide +kernel
theorem dX3_takeWord_8 : decode cX3_takeWord 8 = .ok (.iconst 0, 1) := by decide +kernel
theorem dX3_takeWord_9 : decode cX3_takeWord 9 = .ok (.ireturn, 1) := by decide +kernel
theorem dX3_takeWord_10 : decode cX3_takeWord 10 = .ok (.aload_n 0, 1) := by decide +kernel
theorem dX3_takeWord_11 : decode cX3_takeWord 11 = .ok (.invokevirtual 31, 3) := by decide +kernel
theorem dX3_takeWord_14 : decode cX3_takeWord 14 = .ok (.iconst 1, 1) := by decide +kernel
theorem dX3_takeWord_15 : decode cX3_takeWord 15 = .ok (.ireturn, 1) := by decide +kernel
theorem dX3_takeNumber_0 : decode cX3_takeNumber 0 = .ok (.aload_n 0, 1) := by decide +kernel
theorem dX3_takeNumber_1 : decode cX3_takeNumber 1 = .ok (.getfield 19, 3) := by decide +kernel
theorem dX3_takeNumber_4 : decode cX3_takeNumber 4 = .ok (.iconst 2, 1) := by decide +kernel
theorem dX3_takeNumber_5 : decode cX3_takeNumber 5 = .ok (.if_icmp .ne 15, 3) := by decide +kernel
theorem dX3_takeNumber_8 : decode cX3_takeNumber 8 = .ok (.aload_n 0, 1) := by decide +kernel
theorem dX3_takeNumber_9 : decode cX3_takeNumber 9 = .ok (.getfield 28, 3) := by decide +kernel
theorem dX3_takeNumber_12 : decode cX3_takeNumber 12 = .ok (.iload_n 1, 1) := by decide +kernel
theorem dX3_takeNumber_13 : decode cX3_takeNumber 13 = .ok (.iload_n 2, 1) := by decide +kernel
theorem dX3_takeNumber_14 : decode cX3_takeNumber 14 = .ok (.invokestatic 57, 3) := by decide +kernel
theorem dX3_takeNumber_17 : decode cX3_takeNumber 17 = .ok (.ifCond .ne 5, 3) := by decide +kernel
theorem dX3_takeNumber_20 : decode cX3_takeNumber 20 = .ok (.iconst (-1), 1) := by decide +kernel
theorem dX3_takeNumber_21 : decode cX3_takeNumber 21 = .ok (.ireturn, 1) := by decide +kernel
theorem dX3_takeNumber_22 : decode cX3_takeNumber 22 = .ok (.aload_n 0, 1) := by decide +kernel
theorem dX3_takeNumber_23 : decode cX3_takeNumber 23 = .ok (.getfield 28, 3) := by decide +kernel
theorem dX3_takeNumber_26 : decode cX3_takeNumber 26 = .ok (.istore_n 3, 1) := by decide +kernel
theorem dX3_takeNumber_27 : decode cX3_takeNumber 27 = .ok (.aload_n 0, 1) := by decide +kernel
theorem dX3_takeNumber_28 : decode cX3_takeNumber 28 = .ok (.invokevirtual 31, 3) := by decide +kernel
theorem dX3_takeNumber_31 : decode cX3_takeNumber 31 = .ok (.iload_n 3, 1) := by decide +kernel
theorem dX3_takeNumber_32 : decode cX3_takeNumber 32 = .ok (.ireturn, 1) := by decide +kernel
