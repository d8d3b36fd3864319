theorem dX6_relieves_87 : decode cX6_relieves 87 = .ok (.aload_n 0, 1) := by decide +kernel
theorem dX6_relieves_88 : decode cX6_relieves 88 = .ok (.iload_n 2, 1) := by decide +kernel
theorem dX6_relieves_89 : decode cX6_relieves 89 = .ok (.iload_n 1, 1) := by decide +kernel
theorem dX6_relieves_90 : decode cX6_relieves 90 = .ok (.invokevirtual 90, 3) := by decide +kernel
theorem dX6_relieves_93 : decode cX6_relieves 93 = .ok (.invokestatic 111, 3) := by decide +kernel
theorem dX6_relieves_96 : decode cX6_relieves 96 = .ok (.ior, 1) := by decide +kernel
theorem dX6_relieves_97 : decode cX6_relieves 97 = .ok (.invokevirtual 70, 3) := by decide +kernel
theorem dX6_relieves_100 : decode cX6_relieves 100 = .ok (.aload_n 0, 1) := by decide +kernel
theorem dX6_relieves_101 : decode cX6_relieves 101 = .ok (.iload_n 2, 1) := by decide +kernel
theorem dX6_relieves_102 : decode cX6_relieves 102 = .ok (.iconst 3, 1) := by decide +kernel
theorem dX6_relieves_103 : decode cX6_relieves 103 = .ok (.iload 4, 2) := by decide +kernel
theorem dX6_relieves_105 : decode cX6_relieves 105 = .ok (.iload 5, 2) := by decide +kernel
theorem dX6_relieves_107 : decode cX6_relieves 107 = .ok (.iload 4, 2) := by decide +kernel
theorem dX6_relieves_109 : decode cX6_relieves 109 = .ok (.aload_n 0, 1) := by decide +kernel
theorem dX6_relieves_110 : decode cX6_relieves 110 = .ok (.iload_n 3, 1) := by decide +kernel
theorem dX6_relieves_111 : decode cX6_relieves 111 = .ok (.iload_n 1, 1) := by decide +kernel
theorem dX6_relieves_112 : decode cX6_relieves 112 = .ok (.invokevirtual 90, 3) := by decide +kernel
theorem dX6_relieves_115 : decode cX6_relieves 115 = .ok (.invokestatic 111, 3) := by decide +kernel
theorem dX6_relieves_118 : decode cX6_relieves 118 = .ok (.ior, 1) := by decide +kernel
theorem dX6_relieves_119 : decode cX6_relieves 119 = .ok (.invokevirtual 70, 3) := by decide +kernel
theorem dX6_relieves_122 : decode cX6_relieves 122 = .ok (.aload_n 0, 1) := by decide +kernel
theorem dX6_relieves_123 : decode cX6_relieves 123 = .ok (.iload_n 2, 1) := by decide +kernel
theorem dX6_relieves_124 : decode cX6_relieves 124 = .ok (.iconst 4, 1) := by decide +kernel
theorem dX6_relieves_125 : decode cX6_relieves 125 = .ok (.aload_n 0, 1) := by decide +kernel
theorem dX6_relieves_126 : decode cX6_relieves 126 = .ok (.iload_n 2, 1) := by decide +kernel
theorem dX6_relieves_127 : decode cX6_relieves 127 = .ok (.iconst 4, 1) := by decide +kernel
theorem dX6_relieves_128 : decode cX6_relieves 128 = .ok (.invokevirtual 60, 3) := by decide +kernel
theorem dX6_relieves_131 : decode cX6_relieves 131 = .ok (.iconst 1, 1) := by decide +kernel
theorem dX6_relieves_132 : decode cX6_relieves 132 = .ok (.iadd, 1) := by decide +kernel
theorem dX6_relieves_133 : decode cX6_relieves 133 = .ok (.iconst 0, 1) := by decide +kernel
theorem dX6_relieves_134 : decode cX6_relieves 134 = .ok (.sipush 9999, 3) := by decide +kernel
theorem dX6_relieves_137 : decode cX6_relieves 137 = .ok (.invokestatic 107, 3) := by decide +kernel
theorem dX6_relieves_140 : decode cX6_relieves 140 = .ok (.invokevirtual 70, 3) := by decide +kernel
theorem dX6_relieves_143 : decode cX6_relieves 143 = .ok (.aload_n 0, 1) := by decide +kernel
theorem dX6_relieves_144 : decode cX6_relieves 144 = .ok (.iload_n 3, 1) := by decide +kernel
theorem dX6_relieves_145 : decode cX6_relieves 145 = .ok (.iconst 4, 1) := by decide +kernel
theorem dX6_relieves_146 : decode cX6_relieves 146 = .ok (.aload_n 0, 1) := by decide +kernel
theorem dX6_relieves_147 : decode cX6_relieves 147 = .ok (.iload_n 3, 1) := by decide +kernel
theorem dX6_relieves_148 : decode cX6_relieves 148 = .ok (.iconst 4, 1) := by decide +kernel
theorem dX6_relieves_149 : decode cX6_relieves 149 = .ok (.invokevirtual 60, 3) := by decide +kernel
theorem dX6_relieves_152 : decode cX6_relieves 152 = .ok (.iconst 1, 1) := by decide +kernel
theorem dX6_relieves_153 : decode cX6_relieves 153 = .ok (.iadd, 1) := by decide +kernel
theorem dX6_relieves_154 : decode cX6_relieves 154 = .ok (.iconst 0, 1) := by decide +kernel
theorem dX6_relieves_155 : decode cX6_relieves 155 = .ok (.sipush 9999, 3) := by decide +kernel
theorem dX6_relieves_158 : decode cX6_relieves 158 = .ok (.invokestatic 107, 3) := by decide +kernel
theorem dX6_relieves_161 : decode cX6_relieves 161 = .ok (.invokevirtual 70, 3) := by decide +kernel
theorem dX6_relieves_164 : decode cX6_relieves 164 = .ok (.aload_n 0, 1) := by decide +kernel
theorem dX6_relieves_165 : decode cX6_relieves 165 = .ok (.iload_n 3, 1) := by decide +kernel
theorem dX6_relieves_166 : decode cX6_relieves 166 = .ok (.iconst 1, 1) := by decide +kernel
theorem dX6_relieves_167 : decode cX6_relieves 167 = .ok (.iconst 0, 1) := by decide +kernel
theorem dX6_relieves_168 : decode cX6_relieves 168 = .ok (.invokevirtual 70, 3) := by decide +kernel
theorem dX6_relieves_171 : decode cX6_relieves 171 = .ok (.aload_n 0, 1) := by decide +kernel
theorem dX6_relieves_172 : decode cX6_relieves 172 = .ok (.iload_n 3, 1) := by decide +kernel
theorem dX6_relieves_173 : decode cX6_relieves 173 = .ok (.iconst 2, 1) := by decide +kernel
theorem dX6_relieves_174 : decode cX6_relieves 174 = .ok (.aload_n 0, 1) := by decide +kernel
theorem dX6_relieves_175 : decode cX6_relieves 175 = .ok (.getfield 7, 3) := by decide +kernel
theorem dX6_relieves_178 : decode cX6_relieves 178 = .ok (.iconst 0, 1) := by decide +kernel
theorem dX6_relieves_179 : decode cX6_relieves 179 = .ok (.iaload, 1) := by decide +kernel
theorem dX6_relieves_180 : decode cX6_relieves 180 = .ok (.iconst 1, 1) := by decide +kernel
theorem dX6_relieves_181 : decode cX6_relieves 181 = .ok (.iadd, 1) := by decide +kernel
theorem dX6_relieves_182 : decode cX6_relieves 182 = .ok (.invokevirtual 70, 3) := by decide +kernel
theorem dX6_relieves_185 : decode cX6_relieves 185 = .ok (.aload_n 0, 1) := by decide +kernel
theorem dX6_relieves_186 : decode cX6_relieves 186 = .ok (.iload_n 2, 1) := by decide +kernel
theorem dX6_relieves_187 : decode cX6_relieves 187 = .ok (.iconst 1, 1) := by decide +kernel
theorem dX6_relieves_188 : decode cX6_relieves 188 = .ok (.iconst 1, 1) := by decide +kernel
theorem dX6_relieves_189 : decode cX6_relieves 189 = .ok (.invokevirtual 70, 3) := by decide +kernel
theorem dX6_relieves_192 : decode cX6_relieves 192 = .ok (.aload_n 0, 1) := by decide +kernel
theorem dX6_relieves_193 : decode cX6_relieves 193 = .ok (.iload_n 2, 1) := by decide +kernel
theorem dX6_relieves_194 : decode cX6_relieves 194 = .ok (.iconst 2, 1) := by decide +kernel
theorem dX6_relieves_195 : decode cX6_relieves 195 = .ok (.aload_n 0, 1) := by decide +kernel
theorem dX6_relieves_196 : decode cX6_relieves 196 = .ok (.getfield 7, 3) := by decide +kernel
theorem dX6_relieves_199 : decode cX6_relieves 199 = .ok (.iconst 0, 1) := by decide +kernel
theorem dX6_relieves_200 : decode cX6_relieves 200 = .ok (.iaload, 1) := by decide +kernel
theorem dX6_relieves_201 : decode cX6_relieves 201 = .ok (.iconst 1, 1) := by decide +kernel
theorem dX6_relieves_202 : decode cX6_relieves 202 = .ok (.iadd, 1) := by decide +kernel
theorem dX6_relieves_203 : decode cX6_relieves 203 = .ok (.invokevirtual 70, 3) := by decide +kernel
theorem dX6_relieves_206 : decode cX6_relieves 206 = .ok (.aload_n 0, 1) := by decide +kernel
theorem dX6_relieves_207 : decode cX6_relieves 207 = .ok (.iload_n 2, 1) := by decide +kernel
theorem dX6_relieves_208 : decode cX6_relieves 208 = .ok (.putfield 114, 3) := by decide +kernel
theorem dX6_relieves_211 : decode cX6_relieves 211 = .ok (.aload_n 0, 1) := by decide +kernel
theorem dX6_relieves_212 : decode cX6_relieves 212 = .ok (.iload_n 3, 1) := by decide +kernel
theorem dX6_relieves_213 : decode cX6_relieves 213 = .ok (.putfield 118, 3) := by decide +kernel
theorem dX6_relieves_216 : decode cX6_relieves 216 = .ok (.return_, 1) := by decide +kernel
theorem dX6_oneDay_0 : decode cX6_oneDay 0 = .ok (.aload_n 0, 1) := by decide +kernel
theorem dX6_oneDay_1 : decode cX6_oneDay 1 = .ok (.invokevirtual 121, 3) := by decide +kernel
theorem dX6_oneDay_4 : decode cX6_oneDay 4 = .ok (.istore_n 1, 1) := by decide +kernel
theorem dX6_oneDay_5 : decode cX6_oneDay 5 = .ok (.aload_n 0, 1) := by decide +kernel
theorem dX6_oneDay_6 : decode cX6_oneDay 6 = .ok (.aload_n 0, 1) := by decide +kernel
theorem dX6_oneDay_7 : decode cX6_oneDay 7 = .ok (.getfield 7, 3) := by decide +kernel
theorem dX6_oneDay_10 : decode cX6_oneDay 10 = .ok (.iconst 0, 1) := by decide +kernel
theorem dX6_oneDay_11 : decode cX6_oneDay 11 = .ok (.iaload, 1) := by decide +kernel
theorem dX6_oneDay_12 : decode cX6_oneDay 12 = .ok (.invokevirtual 57, 3) := by decide +kernel
theorem dX6_oneDay_15 : decode cX6_oneDay 15 = .ok (.istore_n 2, 1) := by decide +kernel
theorem dX6_oneDay_16 : decode cX6_oneDay 16 = .ok (.aload_n 0, 1) := by decide +kernel
theorem dX6_oneDay_17 : decode cX6_oneDay 17 = .ok (.getfield 7, 3) := by decide +kernel
theorem dX6_oneDay_20 : decode cX6_oneDay 20 = .ok (.iconst 5, 1) := by decide +kernel
theorem dX6_oneDay_21 : decode cX6_oneDay 21 = .ok (.aload_n 0, 1) := by decide +kernel
theorem dX6_oneDay_22 : decode cX6_oneDay 22 = .ok (.getfield 7, 3) := by decide +kernel
theorem dX6_oneDay_25 : decode cX6_oneDay 25 = .ok (.iconst 2, 1) := by decide +kernel
theorem dX6_oneDay_26 : decode cX6_oneDay 26 = .ok (.iaload, 1) := by decide +kernel
theorem dX6_oneDay_27 : decode cX6_oneDay 27 = .ok (.iload_n 1, 1) := by decide +kernel
theorem dX6_oneDay_28 : decode cX6_oneDay 28 = .ok (.if_icmp .ge 21, 3) := by decide +kernel
theorem dX6_oneDay_31 : decode cX6_oneDay 31 = .ok (.aload_n 0, 1) := by decide +kernel
theorem dX6_oneDay_32 : decode cX6_oneDay 32 = .ok (.getfield 7, 3) := by decide +kernel
theorem dX6_oneDay_35 : decode cX6_oneDay 35 = .ok (.iconst 5, 1) := by decide +kernel
theorem dX6_oneDay_36 : decode cX6_oneDay 36 = .ok (.iaload, 1) := by decide +kernel
theorem dX6_oneDay_37 : decode cX6_oneDay 37 = .ok (.iconst 1, 1) := by decide +kernel
theorem dX6_oneDay_38 : decode cX6_oneDay 38 = .ok (.iadd, 1) := by decide +kernel
theorem dX6_oneDay_39 : decode cX6_oneDay 39 = .ok (.iconst 0, 1) := by decide +kernel
theorem dX6_oneDay_40 : decode cX6_oneDay 40 = .ok (.sipush 9999, 3) := by decide +kernel
theorem dX6_oneDay_43 : decode cX6_oneDay 43 = .ok (.invokestatic 107, 3) := by decide +kernel
theorem dX6_oneDay_46 : decode cX6_oneDay 46 = .ok (.goto 9, 3) := by decide +kernel
theorem dX6_oneDay_49 : decode cX6_oneDay 49 = .ok (.aload_n 0, 1) := by decide +kernel
theorem dX6_oneDay_50 : decode cX6_oneDay 50 = .ok (.getfield 7, 3) := by decide +kernel
theorem dX6_oneDay_53 : decode cX6_oneDay 53 = .ok (.iconst 5, 1) := by decide +kernel
theorem dX6_oneDay_54 : decode cX6_oneDay 54 = .ok (.iaload, 1) := by decide +kernel
theorem dX6_oneDay_55 : decode cX6_oneDay 55 = .ok (.iastore, 1) := by decide +kernel
theorem dX6_oneDay_56 : decode cX6_oneDay 56 = .ok (.aload_n 0, 1) := by decide +kernel
theorem dX6_oneDay_57 : decode cX6_oneDay 57 = .ok (.getfield 7, 3) := by decide +kernel
theorem dX6_oneDay_60 : decode cX6_oneDay 60 = .ok (.iconst 2, 1) := by decide +kernel
theorem dX6_oneDay_61 : decode cX6_oneDay 61 = .ok (.aload_n 0, 1) := by decide +kernel
theorem dX6_oneDay_62 : decode cX6_oneDay 62 = .ok (.getfield 7, 3) := by decide +kernel
theorem dX6_oneDay_65 : decode cX6_oneDay 65 = .ok (.iconst 2, 1) := by decide +kernel
theorem dX6_oneDay_66 : decode cX6_oneDay 66 = .ok (.iaload, 1) := by decide +kernel
theorem dX6_oneDay_67 : decode cX6_oneDay 67 = .ok (.iload_n 1, 1) := by decide +kernel
theorem dX6_oneDay_68 : decode cX6_oneDay 68 = .ok (.if_icmp .ge 7, 3) := by decide +kernel
theorem dX6_oneDay_71 : decode cX6_oneDay 71 = .ok (.iconst 0, 1) := by decide +kernel
theorem dX6_oneDay_72 : decode cX6_oneDay 72 = .ok (.goto 11, 3) := by decide +kernel
theorem dX6_oneDay_75 : decode cX6_oneDay 75 = .ok (.aload_n 0, 1) := by decide +kernel
theorem dX6_oneDay_76 : decode cX6_oneDay 76 = .ok (.getfield 7, 3) := by decide +kernel
theorem dX6_oneDay_79 : decode cX6_oneDay 79 = .ok (.iconst 2, 1) := by decide +kernel
theorem dX6_oneDay_80 : decode cX6_oneDay 80 = .ok (.iaload, 1) := by decide +kernel
theorem dX6_oneDay_81 : decode cX6_oneDay 81 = .ok (.iload_n 1, 1) := by decide +kernel
theorem dX6_oneDay_82 : decode cX6_oneDay 82 = .ok (.isub, 1) := by decide +kernel
theorem dX6_oneDay_83 : decode cX6_oneDay 83 = .ok (.iastore, 1) := by decide +kernel
theorem dX6_oneDay_84 : decode cX6_oneDay 84 = .ok (.aload_n 0, 1) := by decide +kernel
theorem dX6_oneDay_85 : decode cX6_oneDay 85 = .ok (.iconst (-1), 1) := by decide +kernel
theorem dX6_oneDay_86 : decode cX6_oneDay 86 = .ok (.putfield 114, 3) := by decide +kernel
theorem dX6_oneDay_89 : decode cX6_oneDay 89 = .ok (.aload_n 0, 1) := by decide +kernel
theorem dX6_oneDay_90 : decode cX6_oneDay 90 = .ok (.iconst (-1), 1) := by decide +kernel
theorem dX6_oneDay_91 : decode cX6_oneDay 91 = .ok (.putfield 118, 3) := by decide +kernel
theorem dX6_oneDay_94 : decode cX6_oneDay 94 = .ok (.iload_n 2, 1) := by decide +kernel
theorem dX6_oneDay_95 : decode cX6_oneDay 95 = .ok (.ifCond .le 61, 3) := by decide +kernel
theorem dX6_oneDay_98 : decode cX6_oneDay 98 = .ok (.aload_n 0, 1) := by decide +kernel
theorem dX6_oneDay_99 : decode cX6_oneDay 99 = .ok (.getfield 7, 3) := by decide +kernel
theorem dX6_oneDay_102 : decode cX6_oneDay 102 = .ok (.iconst 4, 1) := by decide +kernel
theorem dX6_oneDay_103 : decode cX6_oneDay 103 = .ok (.dup2, 1) := by decide +kernel
theorem dX6_oneDay_104 : decode cX6_oneDay 104 = .ok (.iaload, 1) := by decide +kernel
theorem dX6_oneDay_105 : decode cX6_oneDay 105 = .ok (.iconst 1, 1) := by decide +kernel
theorem dX6_oneDay_106 : decode cX6_oneDay 106 = .ok (.iadd, 1) := by decide +kernel
theorem dX6_oneDay_107 : decode cX6_oneDay 107 = .ok (.iastore, 1) := by decide +kernel
theorem dX6_oneDay_108 : decode cX6_oneDay 108 = .ok (.aload_n 0, 1) := by decide +kernel
theorem dX6_oneDay_109 : decode cX6_oneDay 109 = .ok (.getfield 7, 3) := by decide +kernel
theorem dX6_oneDay_112 : decode cX6_oneDay 112 = .ok (.iconst 4, 1) := by decide +kernel
theorem dX6_oneDay_113 : decode cX6_oneDay 113 = .ok (.iaload, 1) := by decide +kernel
theorem dX6_oneDay_114 : decode cX6_oneDay 114 = .ok (.iconst 3, 1) := by decide +kernel
theorem dX6_oneDay_115 : decode cX6_oneDay 115 = .ok (.if_icmp .ne 41, 3) := by decide +kernel
theorem dX6_oneDay_118 : decode cX6_oneDay 118 = .ok (.aload_n 0, 1) := by decide +kernel
theorem dX6_oneDay_119 : decode cX6_oneDay 119 = .ok (.iconst 0, 1) := by decide +kernel
theorem dX6_oneDay_120 : decode cX6_oneDay 120 = .ok (.invokevirtual 97, 3) := by decide +kernel
theorem dX6_oneDay_123 : decode cX6_oneDay 123 = .ok (.ifCond .lt 7, 3) := by decide +kernel
theorem dX6_oneDay_126 : decode cX6_oneDay 126 = .ok (.iconst 1, 1) := by decide +kernel
theorem dX6_oneDay_127 : decode cX6_oneDay 127 = .ok (.goto 4, 3) := by decide +kernel
theorem dX6_oneDay_130 : decode cX6_oneDay 130 = .ok (.iconst 0, 1) := by decide +kernel
theorem dX6_oneDay_131 : decode cX6_oneDay 131 = .ok (.istore_n 3, 1) := by decide +kernel
theorem dX6_oneDay_132 : decode cX6_oneDay 132 = .ok (.aload_n 0, 1) := by decide +kernel
theorem dX6_oneDay_133 : decode cX6_oneDay 133 = .ok (.getfield 7, 3) := by decide +kernel
theorem dX6_oneDay_136 : decode cX6_oneDay 136 = .ok (.iconst 4, 1) := by decide +kernel
theorem dX6_oneDay_137 : decode cX6_oneDay 137 = .ok (.iload_n 3, 1) := by decide +kernel
theorem dX6_oneDay_138 : decode cX6_oneDay 138 = .ok (.ifCond .eq 7, 3) := by decide +kernel
theorem dX6_oneDay_141 : decode cX6_oneDay 141 = .ok (.iconst 0, 1) := by decide +kernel
theorem dX6_oneDay_142 : decode cX6_oneDay 142 = .ok (.goto 4, 3) := by decide +kernel
theorem dX6_oneDay_145 : decode cX6_oneDay 145 = .ok (.iconst 2, 1) := by decide +kernel
theorem dX6_oneDay_146 : decode cX6_oneDay 146 = .ok (.iastore, 1) := by decide +kernel
theorem dX6_oneDay_147 : decode cX6_oneDay 147 = .ok (.iload_n 3, 1) := by decide +kernel
theorem dX6_oneDay_148 : decode cX6_oneDay 148 = .ok (.ifCond .eq 8, 3) := by decide +kernel
theorem dX6_oneDay_151 : decode cX6_oneDay 151 = .ok (.aload_n 0, 1) := by decide +kernel
theorem dX6_oneDay_152 : decode cX6_oneDay 152 = .ok (.iload_n 2, 1) := by decide +kernel
theorem dX6_oneDay_153 : decode cX6_oneDay 153 = .ok (.invokevirtual 124, 3) := by decide +kernel
theorem dX6_oneDay_156 : decode cX6_oneDay 156 = .ok (.aload_n 0, 1) := by decide +kernel
theorem dX6_oneDay_157 : decode cX6_oneDay 157 = .ok (.getfield 7, 3) := by decide +kernel
theorem dX6_oneDay_160 : decode cX6_oneDay 160 = .ok (.iconst 0, 1) := by decide +kernel
theorem dX6_oneDay_161 : decode cX6_oneDay 161 = .ok (.dup2, 1) := by decide +kernel
theorem dX6_oneDay_162 : decode cX6_oneDay 162 = .ok (.iaload, 1) := by decide +kernel
theorem dX6_oneDay_163 : decode cX6_oneDay 163 = .ok (.iconst 1, 1) := by decide +kernel
theorem dX6_oneDay_164 : decode cX6_oneDay 164 = .ok (.iadd, 1) := by decide +kernel
theorem dX6_oneDay_165 : decode cX6_oneDay 165 = .ok (.iastore, 1) := by decide +kernel
theorem dX6_oneDay_166 : decode cX6_oneDay 166 = .ok (.return_, 1) := by decide +kernel
theorem dX6_passes_0 : decode cX6_passes 0 = .ok (.iconst 0, 1) := by decide +kernel
theorem dX6_passes_1 : decode cX6_passes 1 = .ok (.istore_n 2, 1) := by decide +kernel
theorem dX6_passes_2 : decode cX6_passes 2 = .ok (.iload_n 2, 1) := by decide +kernel
theorem dX6_passes_3 : decode cX6_passes 3 = .ok (.iload_n 1, 1) := by decide +kernel
theorem dX6_passes_4 : decode cX6_passes 4 = .ok (.if_icmp .ge 13, 3) := by decide +kernel
theorem dX6_passes_7 : decode cX6_passes 7 = .ok (.aload_n 0, 1) := by decide +kernel
theorem dX6_passes_8 : decode cX6_passes 8 = .ok (.invokevirtual 128, 3) := by decide +kernel
theorem dX6_passes_11 : decode cX6_passes 11 = .ok (.iinc 2 1, 3) := by decide +kernel
theorem dX6_passes_14 : decode cX6_passes 14 = .ok (.goto (-12), 3) := by decide +kernel
theorem dX6_passes_17 : decode cX6_passes 17 = .ok (.return_, 1) := by decide +kernel
theorem dX6_days_0 : decode cX6_days 0 = .ok (.iload_n 1, 1) := by decide +kernel
theorem dX6_days_1 : decode cX6_days 1 = .ok (.iconst 1, 1) := by decide +kernel
theorem dX6_days_2 : decode cX6_days 2 = .ok (.bipush 100, 2) := by decide +kernel
theorem dX6_days_4 : decode cX6_days 4 = .ok (.invokestatic 45, 3) := by decide +kernel
theorem dX6_days_7 : decode cX6_days 7 = .ok (.ifCond .ne 10, 3) := by decide +kernel
theorem dX6_days_10 : decode cX6_days 10 = .ok (.aload_n 0, 1) := by decide +kernel
theorem dX6_days_11 : decode cX6_days 11 = .ok (.ldc 44, 2) := by decide +kernel
theorem dX6_days_13 : decode cX6_days 13 = .ok (.invokevirtual 53, 3) := by decide +kernel
theorem dX6_days_16 : decode cX6_days 16 = .ok (.ireturn, 1) := by decide +kernel
theorem dX6_days_17 : decode cX6_days 17 = .ok (.aload_n 0, 1) := by decide +kernel
theorem dX6_days_18 : decode cX6_days 18 = .ok (.getfield 7, 3) := by decide +kernel
theorem dX6_days_21 : decode cX6_days 21 = .ok (.iconst 0, 1) := by decide +kernel
theorem dX6_days_22 : decode cX6_days 22 = .ok (.iaload, 1) := by decide +kernel
theorem dX6_days_23 : decode cX6_days 23 = .ok (.iload_n 1, 1) := by decide +kernel
theorem dX6_days_24 : decode cX6_days 24 = .ok (.iadd, 1) := by decide +kernel
theorem dX6_days_25 : decode cX6_days 25 = .ok (.sipush 9999, 3) := by decide +kernel
theorem dX6_days_28 : decode cX6_days 28 = .ok (.if_icmp .le 10, 3) := by decide +kernel
theorem dX6_days_31 : decode cX6_days 31 = .ok (.aload_n 0, 1) := by decide +kernel
theorem dX6_days_32 : decode cX6_days 32 = .ok (.ldc 131, 2) := by decide +kernel
theorem dX6_days_34 : decode cX6_days 34 = .ok (.invokevirtual 53, 3) := by decide +kernel
theorem dX6_days_37 : decode cX6_days 37 = .ok (.ireturn, 1) := by decide +kernel
theorem dX6_days_38 : decode cX6_days 38 = .ok (.aload_n 0, 1) := by decide +kernel
theorem dX6_days_39 : decode cX6_days 39 = .ok (.iload_n 1, 1) := by decide +kernel
theorem dX6_days_40 : decode cX6_days 40 = .ok (.invokevirtual 132, 3) := by decide +kernel
theorem dX6_days_43 : decode cX6_days 43 = .ok (.aload_n 0, 1) := by decide +kernel
theorem dX6_days_44 : decode cX6_days 44 = .ok (.invokevirtual 100, 3) := by decide +kernel
theorem dX6_days_47 : decode cX6_days 47 = .ok (.ireturn, 1) := by decide +kernel
theorem dX6_now_0 : decode cX6_now 0 = .ok (.iload_n 1, 1) := by decide +kernel
theorem dX6_now_1 : decode cX6_now 1 = .ok (.iconst 0, 1) := by decide +kernel
theorem dX6_now_2 : decode cX6_now 2 = .ok (.bipush 7, 2) := by decide +kernel
theorem dX6_now_4 : decode cX6_now 4 = .ok (.invokestatic 45, 3) := by decide +kernel
theorem dX6_now_7 : decode cX6_now 7 = .ok (.ifCond .ne 10, 3) := by decide +kernel
theorem dX6_now_10 : decode cX6_now 10 = .ok (.aload_n 0, 1) := by decide +kernel
theorem dX6_now_11 : decode cX6_now 11 = .ok (.ldc 44, 2) := by decide +kernel
theorem dX6_now_13 : decode cX6_now 13 = .ok (.invokevirtual 53, 3) := by decide +kernel
theorem dX6_now_16 : decode cX6_now 16 = .ok (.ireturn, 1) := by decide +kernel
theorem dX6_now_17 : decode cX6_now 17 = .ok (.iload_n 1, 1) := by decide +kernel
theorem dX6_now_18 : decode cX6_now 18 = .ok (.bipush 6, 2) := by decide +kernel
theorem dX6_now_20 : decode cX6_now 20 = .ok (.if_icmp .ge 12, 3) := by decide +kernel
theorem dX6_now_23 : decode cX6_now 23 = .ok (.aload_n 0, 1) := by decide +kernel
theorem dX6_now_24 : decode cX6_now 24 = .ok (.getfield 7, 3) := by decide +kernel
theorem dX6_now_27 : decode cX6_now 27 = .ok (.iload_n 1, 1) := by decide +kernel
theorem dX6_now_28 : decode cX6_now 28 = .ok (.iaload, 1) := by decide +kernel
theorem dX6_now_29 : decode cX6_now 29 = .ok (.goto 20, 3) := by decide +kernel
theorem dX6_now_32 : decode cX6_now 32 = .ok (.iload_n 1, 1) := by decide +kernel
theorem dX6_now_33 : decode cX6_now 33 = .ok (.bipush 6, 2) := by decide +kernel
theorem dX6_now_35 : decode cX6_now 35 = .ok (.if_icmp .ne 10, 3) := by decide +kernel
theorem dX6_now_38 : decode cX6_now 38 = .ok (.aload_n 0, 1) := by decide +kernel
theorem dX6_now_39 : decode cX6_now 39 = .ok (.invokevirtual 100, 3) := by decide +kernel
theorem dX6_now_42 : decode cX6_now 42 = .ok (.goto 7, 3) := by decide +kernel
theorem dX6_now_45 : decode cX6_now 45 = .ok (.aload_n 0, 1) := by decide +kernel
theorem dX6_now_46 : decode cX6_now 46 = .ok (.invokevirtual 121, 3) := by decide +kernel
theorem dX6_now_49 : decode cX6_now 49 = .ok (.ireturn, 1) := by decide +kernel
theorem dX6_on_0 : decode cX6_on 0 = .ok (.aload_n 0, 1) := by decide +kernel
theorem dX6_on_1 : decode cX6_on 1 = .ok (.iload_n 1, 1) := by decide +kernel
theorem dX6_on_2 : decode cX6_on 2 = .ok (.invokevirtual 81, 3) := by decide +kernel
theorem dX6_on_5 : decode cX6_on 5 = .ok (.ifCond .eq 23, 3) := by decide +kernel
theorem dX6_on_8 : decode cX6_on 8 = .ok (.iload_n 2, 1) := by decide +kernel
theorem dX6_on_9 : decode cX6_on 9 = .ok (.iconst 0, 1) := by decide +kernel
theorem dX6_on_10 : decode cX6_on 10 = .ok (.sipush 200, 3) := by decide +kernel
theorem dX6_on_13 : decode cX6_on 13 = .ok (.invokestatic 45, 3) := by decide +kernel
theorem dX6_on_16 : decode cX6_on 16 = .ok (.ifCond .eq 12, 3) := by decide +kernel
theorem dX6_on_19 : decode cX6_on 19 = .ok (.iload_n 3, 1) := by decide +kernel
theorem dX6_on_20 : decode cX6_on 20 = .ok (.iconst 0, 1) := by decide +kernel
theorem dX6_on_21 : decode cX6_on 21 = .ok (.iconst 2, 1) := by decide +kernel
theorem dX6_on_22 : decode cX6_on 22 = .ok (.invokestatic 45, 3) := by decide +kernel
theorem dX6_on_25 : decode cX6_on 25 = .ok (.ifCond .ne 10, 3) := by decide +kernel
theorem dX6_on_28 : decode cX6_on 28 = .ok (.aload_n 0, 1) := by decide +kernel
theorem dX6_on_29 : decode cX6_on 29 = .ok (.ldc 44, 2) := by decide +kernel
theorem dX6_on_31 : decode cX6_on 31 = .ok (.invokevirtual 53, 3) := by decide +kernel
theorem dX6_on_34 : decode cX6_on 34 = .ok (.ireturn, 1) := by decide +kernel
theorem dX6_on_35 : decode cX6_on 35 = .ok (.aload_n 0, 1) := by decide +kernel
theorem dX6_on_36 : decode cX6_on 36 = .ok (.iconst 1, 1) := by decide +kernel
theorem dX6_on_37 : decode cX6_on 37 = .ok (.aload_n 0, 1) := by decide +kernel
theorem dX6_on_38 : decode cX6_on 38 = .ok (.getfield 16, 3) := by decide +kernel
theorem dX6_on_41 : decode cX6_on 41 = .ok (.invokevirtual 135, 3) := by decide +kernel
theorem dX6_on_44 : decode cX6_on 44 = .ok (.aload_n 0, 1) := by decide +kernel
theorem dX6_on_45 : decode cX6_on 45 = .ok (.iload_n 2, 1) := by decide +kernel
theorem dX6_on_46 : decode cX6_on 46 = .ok (.invokevirtual 132, 3) := by decide +kernel
theorem dX6_on_49 : decode cX6_on 49 = .ok (.aload_n 0, 1) := by decide +kernel
theorem dX6_on_50 : decode cX6_on 50 = .ok (.iload_n 1, 1) := by decide +kernel
theorem dX6_on_51 : decode cX6_on 51 = .ok (.iload_n 3, 1) := by decide +kernel
theorem dX6_on_52 : decode cX6_on 52 = .ok (.ifCond .ne 7, 3) := by decide +kernel
theorem dX6_on_55 : decode cX6_on 55 = .ok (.iconst 1, 1) := by decide +kernel
theorem dX6_on_56 : decode cX6_on 56 = .ok (.goto 13, 3) := by decide +kernel
theorem dX6_on_59 : decode cX6_on 59 = .ok (.iload_n 3, 1) := by decide +kernel
theorem dX6_on_60 : decode cX6_on 60 = .ok (.iconst 1, 1) := by decide +kernel
theorem dX6_on_61 : decode cX6_on 61 = .ok (.if_icmp .ne 7, 3) := by decide +kernel
theorem dX6_on_64 : decode cX6_on 64 = .ok (.iconst 3, 1) := by decide +kernel
theorem dX6_on_65 : decode cX6_on 65 = .ok (.goto 4, 3) := by decide +kernel
theorem dX6_on_68 : decode cX6_on 68 = .ok (.iconst 4, 1) := by decide +kernel
theorem dX6_on_69 : decode cX6_on 69 = .ok (.invokevirtual 60, 3) := by decide +kernel
theorem dX6_on_72 : decode cX6_on 72 = .ok (.istore 4, 2) := by decide +kernel
theorem dX6_on_74 : decode cX6_on 74 = .ok (.aload_n 0, 1) := by decide +kernel
theorem dX6_on_75 : decode cX6_on 75 = .ok (.iconst 0, 1) := by decide +kernel
theorem dX6_on_76 : decode cX6_on 76 = .ok (.aload_n 0, 1) := by decide +kernel
theorem dX6_on_77 : decode cX6_on 77 = .ok (.getfield 16, 3) := by decide +kernel
theorem dX6_on_80 : decode cX6_on 80 = .ok (.invokevirtual 135, 3) := by decide +kernel
theorem dX6_on_83 : decode cX6_on 83 = .ok (.iload 4, 2) := by decide +kernel
theorem dX6_on_85 : decode cX6_on 85 = .ok (.ireturn, 1) := by decide +kernel
theorem dX6_oil_0 : decode cX6_oil 0 = .ok (.iload_n 1, 1) := by decide +kernel
theorem dX6_oil_1 : decode cX6_oil 1 = .ok (.iconst 0, 1) := by decide +kernel
theorem dX6_oil_2 : decode cX6_oil 2 = .ok (.sipush 200, 3) := by decide +kernel
theorem dX6_oil_5 : decode cX6_oil 5 = .ok (.invokestatic 45, 3) := by decide +kernel
theorem dX6_oil_8 : decode cX6_oil 8 = .ok (.ifCond .ne 10, 3) := by decide +kernel
theorem dX6_oil_11 : decode cX6_oil 11 = .ok (.aload_n 0, 1) := by decide +kernel
theorem dX6_oil_12 : decode cX6_oil 12 = .ok (.ldc 44, 2) := by decide +kernel
theorem dX6_oil_14 : decode cX6_oil 14 = .ok (.invokevirtual 53, 3) := by decide +kernel
theorem dX6_oil_17 : decode cX6_oil 17 = .ok (.ireturn, 1) := by decide +kernel
theorem dX6_oil_18 : decode cX6_oil 18 = .ok (.aload_n 0, 1) := by decide +kernel
theorem dX6_oil_19 : decode cX6_oil 19 = .ok (.iconst 1, 1) := by decide +kernel
theorem dX6_oil_20 : decode cX6_oil 20 = .ok (.aload_n 0, 1) := by decide +kernel
theorem dX6_oil_21 : decode cX6_oil 21 = .ok (.getfield 16, 3) := by decide +kernel
theorem dX6_oil_24 : decode cX6_oil 24 = .ok (.invokevirtual 135, 3) := by decide +kernel
theorem dX6_oil_27 : decode cX6_oil 27 = .ok (.aload_n 0, 1) := by decide +kernel
theorem dX6_oil_28 : decode cX6_oil 28 = .ok (.iload_n 1, 1) := by decide +kernel
theorem dX6_oil_29 : decode cX6_oil 29 = .ok (.invokevirtual 132, 3) := by decide +kernel
theorem dX6_oil_32 : decode cX6_oil 32 = .ok (.aload_n 0, 1) := by decide +kernel
theorem dX6_oil_33 : decode cX6_oil 33 = .ok (.getfield 7, 3) := by decide +kernel
theorem dX6_oil_36 : decode cX6_oil 36 = .ok (.iconst 2, 1) := by decide +kernel
theorem dX6_oil_37 : decode cX6_oil 37 = .ok (.iaload, 1) := by decide +kernel
theorem dX6_oil_38 : decode cX6_oil 38 = .ok (.istore_n 2, 1) := by decide +kernel
theorem dX6_oil_39 : decode cX6_oil 39 = .ok (.aload_n 0, 1) := by decide +kernel
theorem dX6_oil_40 : decode cX6_oil 40 = .ok (.iconst 0, 1) := by decide +kernel
theorem dX6_oil_41 : decode cX6_oil 41 = .ok (.aload_n 0, 1) := by decide +kernel
theorem dX6_oil_42 : decode cX6_oil 42 = .ok (.getfield 16, 3) := by decide +kernel
theorem dX6_oil_45 : decode cX6_oil 45 = .ok (.invokevirtual 135, 3) := by decide +kernel
theorem dX6_oil_48 : decode cX6_oil 48 = .ok (.iload_n 2, 1) := by decide +kernel
theorem dX6_oil_49 : decode cX6_oil 49 = .ok (.ireturn, 1) := by decide +kernel
theorem dX6_nextRelief_0 : decode cX6_nextRelief 0 = .ok (.aload_n 0, 1) := by decide +kernel
theorem dX6_nextRelief_1 : decode cX6_nextRelief 1 = .ok (.iconst 1, 1) := by decide +kernel
theorem dX6_nextRelief_2 : decode cX6_nextRelief 2 = .ok (.aload_n 0, 1) := by decide +kernel
theorem dX6_nextRelief_3 : decode cX6_nextRelief 3 = .ok (.getfield 16, 3) := by decide +kernel
theorem dX6_nextRelief_6 : decode cX6_nextRelief 6 = .ok (.invokevirtual 135, 3) := by decide +kernel
theorem dX6_nextRelief_9 : decode cX6_nextRelief 9 = .ok (.iconst 0, 1) := by decide +kernel
theorem dX6_nextRelief_10 : decode cX6_nextRelief 10 = .ok (.istore_n 2, 1) := by decide +kernel
theorem dX6_nextRelief_11 : decode cX6_nextRelief 11 = .ok (.aload_n 0, 1) := by decide +kernel
theorem dX6_nextRelief_12 : decode cX6_nextRelief 12 = .ok (.iconst (-1), 1) := by decide +kernel
theorem dX6_nextRelief_13 : decode cX6_nextRelief 13 = .ok (.putfield 114, 3) := by decide +kernel
theorem dX6_nextRelief_16 : decode cX6_nextRelief 16 = .ok (.iload_n 2, 1) := by decide +kernel
theorem dX6_nextRelief_17 : decode cX6_nextRelief 17 = .ok (.iload_n 1, 1) := by decide +kernel
theorem dX6_nextRelief_18 : decode cX6_nextRelief 18 = .ok (.if_icmp .gt 20, 3) := by decide +kernel
theorem dX6_nextRelief_21 : decode cX6_nextRelief 21 = .ok (.aload_n 0, 1) := by decide +kernel
theorem dX6_nextRelief_22 : decode cX6_nextRelief 22 = .ok (.getfield 114, 3) := by decide +kernel
theorem dX6_nextRelief_25 : decode cX6_nextRelief 25 = .ok (.ifCond .ge 13, 3) := by decide +kernel
theorem dX6_nextRelief_28 : decode cX6_nextRelief 28 = .ok (.aload_n 0, 1) := by decide +kernel
theorem dX6_nextRelief_29 : decode cX6_nextRelief 29 = .ok (.invokevirtual 128, 3) := by decide +kernel
theorem dX6_nextRelief_32 : decode cX6_nextRelief 32 = .ok (.iinc 2 1, 3) := by decide +kernel
theorem dX6_nextRelief_35 : decode cX6_nextRelief 35 = .ok (.goto (-19), 3) := by decide +kernel
theorem dX6_nextRelief_38 : decode cX6_nextRelief 38 = .ok (.aload_n 0, 1) := by decide +kernel
theorem dX6_nextRelief_39 : decode cX6_nextRelief 39 = .ok (.iconst 0, 1) := by decide +kernel
theorem dX6_nextRelief_40 : decode cX6_nextRelief 40 = .ok (.aload_n 0, 1) := by decide +kernel
theorem dX6_nextRelief_41 : decode cX6_nextRelief 41 = .ok (.getfield 16, 3) := by decide +kernel
theorem dX6_nextRelief_44 : decode cX6_nextRelief 44 = .ok (.invokevirtual 135, 3) := by decide +kernel
theorem dX6_nextRelief_47 : decode cX6_nextRelief 47 = .ok (.iload_n 2, 1) := by decide +kernel
theorem dX6_nextRelief_48 : decode cX6_nextRelief 48 = .ok (.ireturn, 1) := by decide +kernel
theorem dX6_relief_0 : decode cX6_relief 0 = .ok (.aload_n 0, 1) := by decide +kernel
theorem dX6_relief_1 : decode cX6_relief 1 = .ok (.sipush 200, 3) := by decide +kernel
theorem dX6_relief_4 : decode cX6_relief 4 = .ok (.invokevirtual 139, 3) := by decide +kernel
theorem dX6_relief_7 : decode cX6_relief 7 = .ok (.istore_n 1, 1) := by decide +kernel
theorem dX6_relief_8 : decode cX6_relief 8 = .ok (.iload_n 1, 1) := by decide +kernel
theorem dX6_relief_9 : decode cX6_relief 9 = .ok (.sipush 200, 3) := by decide +kernel
theorem dX6_relief_12 : decode cX6_relief 12 = .ok (.if_icmp .le 12, 3) := by decide +kernel
theorem dX6_relief_15 : decode cX6_relief 15 = .ok (.aload_n 0, 1) := by decide +kernel
theorem dX6_relief_16 : decode cX6_relief 16 = .ok (.ldc 142, 2) := by decide +kernel
theorem dX6_relief_18 : decode cX6_relief 18 = .ok (.invokevirtual 53, 3) := by decide +kernel
theorem dX6_relief_21 : decode cX6_relief 21 = .ok (.goto 4, 3) := by decide +kernel
theorem dX6_relief_24 : decode cX6_relief 24 = .ok (.iload_n 1, 1) := by decide +kernel
theorem dX6_relief_25 : decode cX6_relief 25 = .ok (.ireturn, 1) := by decide +kernel
theorem dX6_ashore_0 : decode cX6_ashore 0 = .ok (.aload_n 0, 1) := by decide +kernel
theorem dX6_ashore_1 : decode cX6_ashore 1 = .ok (.iload_n 1, 1) := by decide +kernel
theorem dX6_ashore_2 : decode cX6_ashore 2 = .ok (.invokevirtual 81, 3) := by decide +kernel
theorem dX6_ashore_5 : decode cX6_ashore 5 = .ok (.ifCond .ne 10, 3) := by decide +kernel
theorem dX6_ashore_8 : decode cX6_ashore 8 = .ok (.aload_n 0, 1) := by decide +kernel
theorem dX6_ashore_9 : decode cX6_ashore 9 = .ok (.ldc 44, 2) := by decide +kernel
theorem dX6_ashore_11 : decode cX6_ashore 11 = .ok (.invokevirtual 53, 3) := by decide +kernel
theorem dX6_ashore_14 : decode cX6_ashore 14 = .ok (.ireturn, 1) := by decide +kernel
theorem dX6_ashore_15 : decode cX6_ashore 15 = .ok (.aload_n 0, 1) := by decide +kernel
theorem dX6_ashore_16 : decode cX6_ashore 16 = .ok (.iconst 1, 1) := by decide +kernel
theorem dX6_ashore_17 : decode cX6_ashore 17 = .ok (.aload_n 0, 1) := by decide +kernel
theorem dX6_ashore_18 : decode cX6_ashore 18 = .ok (.getfield 16, 3) := by decide +kernel
theorem dX6_ashore_21 : decode cX6_ashore 21 = .ok (.invokevirtual 135, 3) := by decide +kernel
theorem dX6_ashore_24 : decode cX6_ashore 24 = .ok (.iconst 0, 1) := by decide +kernel
theorem dX6_ashore_25 : decode cX6_ashore 25 = .ok (.istore_n 2, 1) := by decide +kernel
theorem dX6_ashore_26 : decode cX6_ashore 26 = .ok (.iload_n 2, 1) := by decide +kernel
theorem dX6_ashore_27 : decode cX6_ashore 27 = .ok (.sipush 200, 3) := by decide +kernel
theorem dX6_ashore_30 : decode cX6_ashore 30 = .ok (.if_icmp .gt 23, 3) := by decide +kernel
theorem dX6_ashore_33 : decode cX6_ashore 33 = .ok (.aload_n 0, 1) := by decide +kernel
theorem dX6_ashore_34 : decode cX6_ashore 34 = .ok (.iload_n 1, 1) := by decide +kernel
theorem dX6_ashore_35 : decode cX6_ashore 35 = .ok (.iconst 1, 1) := by decide +kernel
theorem dX6_ashore_36 : decode cX6_ashore 36 = .ok (.invokevirtual 60, 3) := by decide +kernel
theorem dX6_ashore_39 : decode cX6_ashore 39 = .ok (.iconst 1, 1) := by decide +kernel
theorem dX6_ashore_40 : decode cX6_ashore 40 = .ok (.if_icmp .ne 13, 3) := by decide +kernel
theorem dX6_ashore_43 : decode cX6_ashore 43 = .ok (.aload_n 0, 1) := by decide +kernel
theorem dX6_ashore_44 : decode cX6_ashore 44 = .ok (.invokevirtual 128, 3) := by decide +kernel
theorem dX6_ashore_47 : decode cX6_ashore 47 = .ok (.iinc 2 1, 3) := by decide +kernel
theorem dX6_ashore_50 : decode cX6_ashore 50 = .ok (.goto (-24), 3) := by decide +kernel
theorem dX6_ashore_53 : decode cX6_ashore 53 = .ok (.aload_n 0, 1) := by decide +kernel
theorem dX6_ashore_54 : decode cX6_ashore 54 = .ok (.iconst 0, 1) := by decide +kernel
theorem dX6_ashore_55 : decode cX6_ashore 55 = .ok (.aload_n 0, 1) := by decide +kernel
theorem dX6_ashore_56 : decode cX6_ashore 56 = .ok (.getfield 16, 3) := by decide +kernel
theorem dX6_ashore_59 : decode cX6_ashore 59 = .ok (.invokevirtual 135, 3) := by decide +kernel
theorem dX6_ashore_62 : decode cX6_ashore 62 = .ok (.iload_n 2, 1) := by decide +kernel
theorem dX6_ashore_63 : decode cX6_ashore 63 = .ok (.sipush 200, 3) := by decide +kernel
theorem dX6_ashore_66 : decode cX6_ashore 66 = .ok (.if_icmp .le 12, 3) := by decide +kernel
theorem dX6_ashore_69 : decode cX6_ashore 69 = .ok (.aload_n 0, 1) := by decide +kernel
theorem dX6_ashore_70 : decode cX6_ashore 70 = .ok (.ldc 142, 2) := by decide +kernel
theorem dX6_ashore_72 : decode cX6_ashore 72 = .ok (.invokevirtual 53, 3) := by decide +kernel
theorem dX6_ashore_75 : decode cX6_ashore 75 = .ok (.goto 4, 3) := by decide +kernel
theorem dX6_ashore_78 : decode cX6_ashore 78 = .ok (.iload_n 2, 1) := by decide +kernel
theorem dX6_ashore_79 : decode cX6_ashore 79 = .ok (.ireturn, 1) := by decide +kernel
theorem dX6_knows_0 : decode cX6_knows 0 = .ok (.aload_n 0, 1) := by decide +kernel
theorem dX6_knows_1 : decode cX6_knows 1 = .ok (.iload_n 1, 1) := by decide +kernel
theorem dX6_knows_2 : decode cX6_knows 2 = .ok (.invokevirtual 81, 3) := by decide +kernel
theorem dX6_knows_5 : decode cX6_knows 5 = .ok (.ifCond .eq 13, 3) := by decide +kernel
theorem dX6_knows_8 : decode cX6_knows 8 = .ok (.iload_n 2, 1) := by decide +kernel
theorem dX6_knows_9 : decode cX6_knows 9 = .ok (.iconst 0, 1) := by decide +kernel
theorem dX6_knows_10 : decode cX6_knows 10 = .ok (.bipush 8, 2) := by decide +kernel
theorem dX6_knows_12 : decode cX6_knows 12 = .ok (.invokestatic 45, 3) := by decide +kernel
theorem dX6_knows_15 : decode cX6_knows 15 = .ok (.ifCond .ne 10, 3) := by decide +kernel
theorem dX6_knows_18 : decode cX6_knows 18 = .ok (.aload_n 0, 1) := by decide +kernel
theorem dX6_knows_19 : decode cX6_knows 19 = .ok (.ldc 44, 2) := by decide +kernel
theorem dX6_knows_21 : decode cX6_knows 21 = .ok (.invokevirtual 53, 3) := by decide +kernel
theorem dX6_knows_24 : decode cX6_knows 24 = .ok (.ireturn, 1) := by decide +kernel
theorem dX6_knows_25 : decode cX6_knows 25 = .ok (.aload_n 0, 1) := by decide +kernel
theorem dX6_knows_26 : decode cX6_knows 26 = .ok (.iconst 1, 1) := by decide +kernel
theorem dX6_knows_27 : decode cX6_knows 27 = .ok (.aload_n 0, 1) := by decide +kernel
theorem dX6_knows_28 : decode cX6_knows 28 = .ok (.getfield 16, 3) := by decide +kernel
theorem dX6_knows_31 : decode cX6_knows 31 = .ok (.invokevirtual 135, 3) := by decide +kernel
theorem dX6_knows_34 : decode cX6_knows 34 = .ok (.iconst 0, 1) := by decide +kernel
theorem dX6_knows_35 : decode cX6_knows 35 = .ok (.istore_n 3, 1) := by decide +kernel
theorem dX6_knows_36 : decode cX6_knows 36 = .ok (.iload_n 3, 1) := by decide +kernel
theorem dX6_knows_37 : decode cX6_knows 37 = .ok (.sipush 200, 3) := by decide +kernel
theorem dX6_knows_40 : decode cX6_knows 40 = .ok (.if_icmp .gt 26, 3) := by decide +kernel
theorem dX6_knows_43 : decode cX6_knows 43 = .ok (.aload_n 0, 1) := by decide +kernel
theorem dX6_knows_44 : decode cX6_knows 44 = .ok (.iload_n 1, 1) := by decide +kernel
theorem dX6_knows_45 : decode cX6_knows 45 = .ok (.iconst 3, 1) := by decide +kernel
theorem dX6_knows_46 : decode cX6_knows 46 = .ok (.invokevirtual 60, 3) := by decide +kernel
theorem dX6_knows_49 : decode cX6_knows 49 = .ok (.iload_n 2, 1) := by decide +kernel
theorem dX6_knows_50 : decode cX6_knows 50 = .ok (.ishr, 1) := by decide +kernel
theorem dX6_knows_51 : decode cX6_knows 51 = .ok (.iconst 1, 1) := by decide +kernel
theorem dX6_knows_52 : decode cX6_knows 52 = .ok (.iand, 1) := by decide +kernel
theorem dX6_knows_53 : decode cX6_knows 53 = .ok (.ifCond .ne 13, 3) := by decide +kernel
theorem dX6_knows_56 : decode cX6_knows 56 = .ok (.aload_n 0, 1) := by decide +kernel
theorem dX6_knows_57 : decode cX6_knows 57 = .ok (.invokevirtual 128, 3) := by decide +kernel
theorem dX6_knows_60 : decode cX6_knows 60 = .ok (.iinc 3 1, 3) := by decide +kernel
theorem dX6_knows_63 : decode cX6_knows 63 = .ok (.goto (-27), 3) := by decide +kernel
theorem dX6_knows_66 : decode cX6_knows 66 = .ok (.aload_n 0, 1) := by decide +kernel
theorem dX6_knows_67 : decode cX6_knows 67 = .ok (.iconst 0, 1) := by decide +kernel
theorem dX6_knows_68 : decode cX6_knows 68 = .ok (.aload_n 0, 1) := by decide +kernel
theorem dX6_knows_69 : decode cX6_knows 69 = .ok (.getfield 16, 3) := by decide +kernel
theorem dX6_knows_72 : decode cX6_knows 72 = .ok (.invokevirtual 135, 3) := by decide +kernel
theorem dX6_knows_75 : decode cX6_knows 75 = .ok (.iload_n 3, 1) := by decide +kernel
theorem dX6_knows_76 : decode cX6_knows 76 = .ok (.sipush 200, 3) := by decide +kernel
theorem dX6_knows_79 : decode cX6_knows 79 = .ok (.if_icmp .le 12, 3) := by decide +kernel
theorem dX6_knows_82 : decode cX6_knows 82 = .ok (.aload_n 0, 1) := by decide +kernel
theorem dX6_knows_83 : decode cX6_knows 83 = .ok (.ldc 142, 2) := by decide +kernel
theorem dX6_knows_85 : decode cX6_knows 85 = .ok (.invokevirtual 53, 3) := by decide +kernel
theorem dX6_knows_88 : decode cX6_knows 88 = .ok (.goto 4, 3) := by decide +kernel
theorem dX6_knows_91 : decode cX6_knows 91 = .ok (.iload_n 3, 1) := by decide +kernel
theorem dX6_knows_92 : decode cX6_knows 92 = .ok (.ireturn, 1) := by decide +kernel
theorem dX6_dark_0 : decode cX6_dark 0 = .ok (.aload_n 0, 1) := by decide +kernel
theorem dX6_dark_1 : decode cX6_dark 1 = .ok (.iconst 1, 1) := by decide +kernel
theorem dX6_dark_2 : decode cX6_dark 2 = .ok (.aload_n 0, 1) := by decide +kernel
theorem dX6_dark_3 : decode cX6_dark 3 = .ok (.getfield 16, 3) := by decide +kernel
theorem dX6_dark_6 : decode cX6_dark 6 = .ok (.invokevirtual 135, 3) := by decide +kernel
theorem dX6_dark_9 : decode cX6_dark 9 = .ok (.iconst 0, 1) := by decide +kernel
theorem dX6_dark_10 : decode cX6_dark 10 = .ok (.istore_n 1, 1) := by decide +kernel
theorem dX6_dark_11 : decode cX6_dark 11 = .ok (.iload_n 1, 1) := by decide +kernel
theorem dX6_dark_12 : decode cX6_dark 12 = .ok (.sipush 200, 3) := by decide +kernel
theorem dX6_dark_15 : decode cX6_dark 15 = .ok (.if_icmp .gt 28, 3) := by decide +kernel
theorem dX6_dark_18 : decode cX6_dark 18 = .ok (.aload_n 0, 1) := by decide +kernel
theorem dX6_dark_19 : decode cX6_dark 19 = .ok (.getfield 7, 3) := by decide +kernel
theorem dX6_dark_22 : decode cX6_dark 22 = .ok (.iconst 5, 1) := by decide +kernel
theorem dX6_dark_23 : decode cX6_dark 23 = .ok (.iaload, 1) := by decide +kernel
theorem dX6_dark_24 : decode cX6_dark 24 = .ok (.aload_n 0, 1) := by decide +kernel
theorem dX6_dark_25 : decode cX6_dark 25 = .ok (.getfield 16, 3) := by decide +kernel
theorem dX6_dark_28 : decode cX6_dark 28 = .ok (.iconst 5, 1) := by decide +kernel
theorem dX6_dark_29 : decode cX6_dark 29 = .ok (.iaload, 1) := by decide +kernel
theorem dX6_dark_30 : decode cX6_dark 30 = .ok (.if_icmp .ne 13, 3) := by decide +kernel
theorem dX6_dark_33 : decode cX6_dark 33 = .ok (.aload_n 0, 1) := by decide +kernel
theorem dX6_dark_34 : decode cX6_dark 34 = .ok (.invokevirtual 128, 3) := by decide +kernel
theorem dX6_dark_37 : decode cX6_dark 37 = .ok (.iinc 1 1, 3) := by decide +kernel
theorem dX6_dark_40 : decode cX6_dark 40 = .ok (.goto (-29), 3) := by decide +kernel
theorem dX6_dark_43 : decode cX6_dark 43 = .ok (.aload_n 0, 1) := by decide +kernel
theorem dX6_dark_44 : decode cX6_dark 44 = .ok (.iconst 0, 1) := by decide +kernel
theorem dX6_dark_45 : decode cX6_dark 45 = .ok (.aload_n 0, 1) := by decide +kernel
theorem dX6_dark_46 : decode cX6_dark 46 = .ok (.getfield 16, 3) := by decide +kernel
theorem dX6_dark_49 : decode cX6_dark 49 = .ok (.invokevirtual 135, 3) := by decide +kernel
theorem dX6_dark_52 : decode cX6_dark 52 = .ok (.iload_n 1, 1) := by decide +kernel
theorem dX6_dark_53 : decode cX6_dark 53 = .ok (.sipush 200, 3) := by decide +kernel
theorem dX6_dark_56 : decode cX6_dark 56 = .ok (.if_icmp .le 12, 3) := by decide +kernel
theorem dX6_dark_59 : decode cX6_dark 59 = .ok (.aload_n 0, 1) := by decide +kernel
theorem dX6_dark_60 : decode cX6_dark 60 = .ok (.ldc 142, 2) := by decide +kernel
theorem dX6_dark_62 : decode cX6_dark 62 = .ok (.invokevirtual 53, 3) := by decide +kernel
theorem dX6_dark_65 : decode cX6_dark 65 = .ok (.goto 4, 3) := by decide +kernel
theorem dX6_dark_68 : decode cX6_dark 68 = .ok (.iload_n 1, 1) := by decide +kernel
theorem dX6_dark_69 : decode cX6_dark 69 = .ok (.ireturn, 1) := by decide +kernel
theorem dX6_meet_0 : decode cX6_meet 0 = .ok (.aload_n 0, 1) := by decide +kernel
theorem dX6_meet_1 : decode cX6_meet 1 = .ok (.iload_n 1, 1) := by decide +kernel
theorem dX6_meet_2 : decode cX6_meet 2 = .ok (.invokevirtual 81, 3) := by decide +kernel
theorem dX6_meet_5 : decode cX6_meet 5 = .ok (.ifCond .eq 16, 3) := by decide +kernel
theorem dX6_meet_8 : decode cX6_meet 8 = .ok (.aload_n 0, 1) := by decide +kernel
theorem dX6_meet_9 : decode cX6_meet 9 = .ok (.iload_n 2, 1) := by decide +kernel
theorem dX6_meet_10 : decode cX6_meet 10 = .ok (.invokevirtual 81, 3) := by decide +kernel
theorem dX6_meet_13 : decode cX6_meet 13 = .ok (.ifCond .eq 8, 3) := by decide +kernel
theorem dX6_meet_16 : decode cX6_meet 16 = .ok (.iload_n 1, 1) := by decide +kernel
theorem dX6_meet_17 : decode cX6_meet 17 = .ok (.iload_n 2, 1) := by decide +kernel
theorem dX6_meet_18 : decode cX6_meet 18 = .ok (.if_icmp .ne 10, 3) := by decide +kernel
theorem dX6_meet_21 : decode cX6_meet 21 = .ok (.aload_n 0, 1) := by decide +kernel
theorem dX6_meet_22 : decode cX6_meet 22 = .ok (.ldc 44, 2) := by decide +kernel
theorem dX6_meet_24 : decode cX6_meet 24 = .ok (.invokevirtual 53, 3) := by decide +kernel
theorem dX6_meet_27 : decode cX6_meet 27 = .ok (.ireturn, 1) := by decide +kernel
theorem dX6_meet_28 : decode cX6_meet 28 = .ok (.aload_n 0, 1) := by decide +kernel
theorem dX6_meet_29 : decode cX6_meet 29 = .ok (.iconst 1, 1) := by decide +kernel
theorem dX6_meet_30 : decode cX6_meet 30 = .ok (.aload_n 0, 1) := by decide +kernel
theorem dX6_meet_31 : decode cX6_meet 31 = .ok (.getfield 16, 3) := by decide +kernel
theorem dX6_meet_34 : decode cX6_meet 34 = .ok (.invokevirtual 135, 3) := by decide +kernel
theorem dX6_meet_37 : decode cX6_meet 37 = .ok (.iconst 0, 1) := by decide +kernel
theorem dX6_meet_38 : decode cX6_meet 38 = .ok (.istore_n 3, 1) := by decide +kernel
theorem dX6_meet_39 : decode cX6_meet 39 = .ok (.iconst 0, 1) := by decide +kernel
theorem dX6_meet_40 : decode cX6_meet 40 = .ok (.istore 4, 2) := by decide +kernel
theorem dX6_meet_42 : decode cX6_meet 42 = .ok (.iload_n 3, 1) := by decide +kernel
theorem dX6_meet_43 : decode cX6_meet 43 = .ok (.sipush 200, 3) := by decide +kernel
theorem dX6_meet_46 : decode cX6_meet 46 = .ok (.if_icmp .gt 57, 3) := by decide +kernel
theorem dX6_meet_49 : decode cX6_meet 49 = .ok (.iload 4, 2) := by decide +kernel
theorem dX6_meet_51 : decode cX6_meet 51 = .ok (.ifCond .ne 52, 3) := by decide +kernel
theorem dX6_meet_54 : decode cX6_meet 54 = .ok (.aload_n 0, 1) := by decide +kernel
theorem dX6_meet_55 : decode cX6_meet 55 = .ok (.invokevirtual 128, 3) := by decide +kernel
theorem dX6_meet_58 : decode cX6_meet 58 = .ok (.iinc 3 1, 3) := by decide +kernel
theorem dX6_meet_61 : decode cX6_meet 61 = .ok (.aload_n 0, 1) := by decide +kernel
theorem dX6_meet_62 : decode cX6_meet 62 = .ok (.getfield 114, 3) := by decide +kernel
theorem dX6_meet_65 : decode cX6_meet 65 = .ok (.iload_n 1, 1) := by decide +kernel
theorem dX6_meet_66 : decode cX6_meet 66 = .ok (.if_icmp .ne 11, 3) := by decide +kernel
theorem dX6_meet_69 : decode cX6_meet 69 = .ok (.aload_n 0, 1) := by decide +kernel
theorem dX6_meet_70 : decode cX6_meet 70 = .ok (.getfield 118, 3) := by decide +kernel
theorem dX6_meet_73 : decode cX6_meet 73 = .ok (.iload_n 2, 1) := by decide +kernel
theorem dX6_meet_74 : decode cX6_meet 74 = .ok (.if_icmp .eq 19, 3) := by decide +kernel
theorem dX6_meet_77 : decode cX6_meet 77 = .ok (.aload_n 0, 1) := by decide +kernel
theorem dX6_meet_78 : decode cX6_meet 78 = .ok (.getfield 114, 3) := by decide +kernel
theorem dX6_meet_81 : decode cX6_meet 81 = .ok (.iload_n 2, 1) := by decide +kernel
theorem dX6_meet_82 : decode cX6_meet 82 = .ok (.if_icmp .ne 15, 3) := by decide +kernel
theorem dX6_meet_85 : decode cX6_meet 85 = .ok (.aload_n 0, 1) := by decide +kernel
theorem dX6_meet_86 : decode cX6_meet 86 = .ok (.getfield 118, 3) := by decide +kernel
theorem dX6_meet_89 : decode cX6_meet 89 = .ok (.iload_n 1, 1) := by decide +kernel
theorem dX6_meet_90 : decode cX6_meet 90 = .ok (.if_icmp .ne 7, 3) := by decide +kernel
theorem dX6_meet_93 : decode cX6_meet 93 = .ok (.iconst 1, 1) := by decide +kernel
theorem dX6_meet_94 : decode cX6_meet 94 = .ok (.goto 4, 3) := by decide +kernel
theorem dX6_meet_97 : decode cX6_meet 97 = .ok (.iconst 0, 1) := by decide +kernel
theorem dX6_meet_98 : decode cX6_meet 98 = .ok (.istore 4, 2) := by decide +kernel
theorem dX6_meet_100 : decode cX6_meet 100 = .ok (.goto (-58), 3) := by decide +kernel
theorem dX6_meet_103 : decode cX6_meet 103 = .ok (.aload_n 0, 1) := by decide +kernel
theorem dX6_meet_104 : decode cX6_meet 104 = .ok (.iconst 0, 1) := by decide +kernel
theorem dX6_meet_105 : decode cX6_meet 105 = .ok (.aload_n 0, 1) := by decide +kernel
theorem dX6_meet_106 : decode cX6_meet 106 = .ok (.getfield 16, 3) := by decide +kernel
theorem dX6_meet_109 : decode cX6_meet 109 = .ok (.invokevirtual 135, 3) := by decide +kernel
theorem dX6_meet_112 : decode cX6_meet 112 = .ok (.iload_n 3, 1) := by decide +kernel
theorem dX6_meet_113 : decode cX6_meet 113 = .ok (.sipush 200, 3) := by decide +kernel
theorem dX6_meet_116 : decode cX6_meet 116 = .ok (.if_icmp .le 12, 3) := by decide +kernel
theorem dX6_meet_119 : decode cX6_meet 119 = .ok (.aload_n 0, 1) := by decide +kernel
theorem dX6_meet_120 : decode cX6_meet 120 = .ok (.ldc 142, 2) := by decide +kernel
theorem dX6_meet_122 : decode cX6_meet 122 = .ok (.invokevirtual 53, 3) := by decide +kernel
theorem dX6_meet_125 : decode cX6_meet 125 = .ok (.goto 4, 3) := by decide +kernel
theorem dX6_meet_128 : decode cX6_meet 128 = .ok (.iload_n 3, 1) := by decide +kernel
theorem dX6_meet_129 : decode cX6_meet 129 = .ok (.ireturn, 1) := by decide +kernel
theorem dX6_rock_0 : decode cX6_rock 0 = .ok (.iload_n 1, 1) := by decide +kernel
theorem dX6_rock_1 : decode cX6_rock 1 = .ok (.iconst 1, 1) := by decide +kernel
theorem dX6_rock_2 : decode cX6_rock 2 = .ok (.bipush 100, 2) := by decide +kernel
theorem dX6_rock_4 : decode cX6_rock 4 = .ok (.invokestatic 45, 3) := by decide +kernel
theorem dX6_rock_7 : decode cX6_rock 7 = .ok (.ifCond .ne 10, 3) := by decide +kernel
theorem dX6_rock_10 : decode cX6_rock 10 = .ok (.aload_n 0, 1) := by decide +kernel
theorem dX6_rock_11 : decode cX6_rock 11 = .ok (.ldc 44, 2) := by decide +kernel
theorem dX6_rock_13 : decode cX6_rock 13 = .ok (.invokevirtual 53, 3) := by decide +kernel
theorem dX6_rock_16 : decode cX6_rock 16 = .ok (.ireturn, 1) := by decide +kernel
theorem dX6_rock_17 : decode cX6_rock 17 = .ok (.aload_n 0, 1) := by decide +kernel
theorem dX6_rock_18 : decode cX6_rock 18 = .ok (.getfield 7, 3) := by decide +kernel
theorem dX6_rock_21 : decode cX6_rock 21 = .ok (.iconst 1, 1) := by decide +kernel
theorem dX6_rock_22 : decode cX6_rock 22 = .ok (.iaload, 1) := by decide +kernel
theorem dX6_rock_23 : decode cX6_rock 23 = .ok (.istore_n 2, 1) := by decide +kernel
theorem dX6_rock_24 : decode cX6_rock 24 = .ok (.bipush 13, 2) := by decide +kernel
theorem dX6_rock_26 : decode cX6_rock 26 = .ok (.istore_n 3, 1) := by decide +kernel
theorem dX6_rock_27 : decode cX6_rock 27 = .ok (.iconst 0, 1) := by decide +kernel
theorem dX6_rock_28 : decode cX6_rock 28 = .ok (.istore 4, 2) := by decide +kernel
theorem dX6_rock_30 : decode cX6_rock 30 = .ok (.iload_n 3, 1) := by decide +kernel
theorem dX6_rock_31 : decode cX6_rock 31 = .ok (.ifCond .le 37, 3) := by decide +kernel
theorem dX6_rock_34 : decode cX6_rock 34 = .ok (.iload 4, 2) := by decide +kernel
theorem dX6_rock_36 : decode cX6_rock 36 = .ok (.ifCond .ne 32, 3) := by decide +kernel
theorem dX6_rock_39 : decode cX6_rock 39 = .ok (.iinc 3 (-1), 3) := by decide +kernel
theorem dX6_rock_42 : decode cX6_rock 42 = .ok (.aload_n 0, 1) := by decide +kernel
theorem dX6_rock_43 : decode cX6_rock 43 = .ok (.getfield 7, 3) := by decide +kernel
theorem dX6_rock_46 : decode cX6_rock 46 = .ok (.iconst 1, 1) := by decide +kernel
theorem dX6_rock_47 : decode cX6_rock 47 = .ok (.iload_n 3, 1) := by decide +kernel
theorem dX6_rock_48 : decode cX6_rock 48 = .ok (.iastore, 1) := by decide +kernel
theorem dX6_rock_49 : decode cX6_rock 49 = .ok (.aload_n 0, 1) := by decide +kernel
theorem dX6_rock_50 : decode cX6_rock 50 = .ok (.iload_n 1, 1) := by decide +kernel
theorem dX6_rock_51 : decode cX6_rock 51 = .ok (.invokevirtual 139, 3) := by decide +kernel
theorem dX6_rock_54 : decode cX6_rock 54 = .ok (.iload_n 1, 1) := by decide +kernel
theorem dX6_rock_55 : decode cX6_rock 55 = .ok (.if_icmp .gt 7, 3) := by decide +kernel
theorem dX6_rock_58 : decode cX6_rock 58 = .ok (.iconst 1, 1) := by decide +kernel
theorem dX6_rock_59 : decode cX6_rock 59 = .ok (.goto 4, 3) := by decide +kernel
theorem dX6_rock_62 : decode cX6_rock 62 = .ok (.iconst 0, 1) := by decide +kernel
theorem dX6_rock_63 : decode cX6_rock 63 = .ok (.istore 4, 2) := by decide +kernel
theorem dX6_rock_65 : decode cX6_rock 65 = .ok (.goto (-35), 3) := by decide +kernel
theorem dX6_rock_68 : decode cX6_rock 68 = .ok (.aload_n 0, 1) := by decide +kernel
theorem dX6_rock_69 : decode cX6_rock 69 = .ok (.getfield 7, 3) := by decide +kernel
theorem dX6_rock_72 : decode cX6_rock 72 = .ok (.iconst 1, 1) := by decide +kernel
theorem dX6_rock_73 : decode cX6_rock 73 = .ok (.iload_n 2, 1) := by decide +kernel
theorem dX6_rock_74 : decode cX6_rock 74 = .ok (.iastore, 1) := by decide +kernel
theorem dX6_rock_75 : decode cX6_rock 75 = .ok (.iload 4, 2) := by decide +kernel
theorem dX6_rock_77 : decode cX6_rock 77 = .ok (.ifCond .eq 7, 3) := by decide +kernel
theorem dX6_rock_80 : decode cX6_rock 80 = .ok (.iload_n 3, 1) := by decide +kernel
theorem dX6_rock_81 : decode cX6_rock 81 = .ok (.goto 9, 3) := by decide +kernel
theorem dX6_rock_84 : decode cX6_rock 84 = .ok (.aload_n 0, 1) := by decide +kernel
theorem dX6_rock_85 : decode cX6_rock 85 = .ok (.ldc 142, 2) := by decide +kernel
theorem dX6_rock_87 : decode cX6_rock 87 = .ok (.invokevirtual 53, 3) := by decide +kernel
theorem dX6_rock_90 : decode cX6_rock 90 = .ok (.ireturn, 1) := by decide +kernel
theorem dX6_kind_0 : decode cX6_kind 0 = .ok (.aload_n 0, 1) := by decide +kernel
theorem dX6_kind_1 : decode cX6_kind 1 = .ok (.iload_n 1, 1) := by decide +kernel
theorem dX6_kind_2 : decode cX6_kind 2 = .ok (.invokevirtual 81, 3) := by decide +kernel
theorem dX6_kind_5 : decode cX6_kind 5 = .ok (.ifCond .eq 13, 3) := by decide +kernel
theorem dX6_kind_8 : decode cX6_kind 8 = .ok (.iload_n 2, 1) := by decide +kernel
theorem dX6_kind_9 : decode cX6_kind 9 = .ok (.iconst 1, 1) := by decide +kernel
theorem dX6_kind_10 : decode cX6_kind 10 = .ok (.bipush 100, 2) := by decide +kernel
theorem dX6_kind_12 : decode cX6_kind 12 = .ok (.invokestatic 45, 3) := by decide +kernel
theorem dX6_kind_15 : decode cX6_kind 15 = .ok (.ifCond .ne 10, 3) := by decide +kernel
theorem dX6_kind_18 : decode cX6_kind 18 = .ok (.aload_n 0, 1) := by decide +kernel
theorem dX6_kind_19 : decode cX6_kind 19 = .ok (.ldc 44, 2) := by decide +kernel
theorem dX6_kind_21 : decode cX6_kind 21 = .ok (.invokevirtual 53, 3) := by decide +kernel
theorem dX6_kind_24 : decode cX6_kind 24 = .ok (.ireturn, 1) := by decide +kernel
theorem dX6_kind_25 : decode cX6_kind 25 = .ok (.iconst 0, 1) := by decide +kernel
theorem dX6_kind_26 : decode cX6_kind 26 = .ok (.istore_n 3, 1) := by decide +kernel
theorem dX6_kind_27 : decode cX6_kind 27 = .ok (.iconst (-1), 1) := by decide +kernel
theorem dX6_kind_28 : decode cX6_kind 28 = .ok (.istore 4, 2) := by decide +kernel
theorem dX6_kind_30 : decode cX6_kind 30 = .ok (.aload_n 0, 1) := by decide +kernel
theorem dX6_kind_31 : decode cX6_kind 31 = .ok (.iconst 1, 1) := by decide +kernel
theorem dX6_kind_32 : decode cX6_kind 32 = .ok (.aload_n 0, 1) := by decide +kernel
theorem dX6_kind_33 : decode cX6_kind 33 = .ok (.getfield 16, 3) := by decide +kernel
theorem dX6_kind_36 : decode cX6_kind 36 = .ok (.invokevirtual 135, 3) := by decide +kernel
theorem dX6_kind_39 : decode cX6_kind 39 = .ok (.iconst 0, 1) := by decide +kernel
theorem dX6_kind_40 : decode cX6_kind 40 = .ok (.istore 5, 2) := by decide +kernel
theorem dX6_kind_42 : decode cX6_kind 42 = .ok (.iload 5, 2) := by decide +kernel
theorem dX6_kind_44 : decode cX6_kind 44 = .ok (.iconst 5, 1) := by decide +kernel
theorem dX6_kind_45 : decode cX6_kind 45 = .ok (.if_icmp .gt 72, 3) := by decide +kernel
theorem dX6_kind_48 : decode cX6_kind 48 = .ok (.aload_n 0, 1) := by decide +kernel
theorem dX6_kind_49 : decode cX6_kind 49 = .ok (.iload_n 1, 1) := by decide +kernel
theorem dX6_kind_50 : decode cX6_kind 50 = .ok (.iconst 0, 1) := by decide +kernel
theorem dX6_kind_51 : decode cX6_kind 51 = .ok (.iload 5, 2) := by decide +kernel
theorem dX6_kind_53 : decode cX6_kind 53 = .ok (.invokevirtual 70, 3) := by decide +kernel
theorem dX6_kind_56 : decode cX6_kind 56 = .ok (.aload_n 0, 1) := by decide +kernel
theorem dX6_kind_57 : decode cX6_kind 57 = .ok (.iload_n 2, 1) := by decide +kernel
theorem dX6_kind_58 : decode cX6_kind 58 = .ok (.invokevirtual 132, 3) := by decide +kernel
theorem dX6_kind_61 : decode cX6_kind 61 = .ok (.aload_n 0, 1) := by decide +kernel
theorem dX6_kind_62 : decode cX6_kind 62 = .ok (.iload_n 1, 1) := by decide +kernel
theorem dX6_kind_63 : decode cX6_kind 63 = .ok (.iconst 3, 1) := by decide +kernel
theorem dX6_kind_64 : decode cX6_kind 64 = .ok (.invokevirtual 60, 3) := by decide +kernel
theorem dX6_kind_67 : decode cX6_kind 67 = .ok (.invokestatic 104, 3) := by decide +kernel
theorem dX6_kind_70 : decode cX6_kind 70 = .ok (.istore 6, 2) := by decide +kernel
theorem dX6_kind_72 : decode cX6_kind 72 = .ok (.aload_n 0, 1) := by decide +kernel
theorem dX6_kind_73 : decode cX6_kind 73 = .ok (.iconst 0, 1) := by decide +kernel
theorem dX6_kind_74 : decode cX6_kind 74 = .ok (.aload_n 0, 1) := by decide +kernel
theorem dX6_kind_75 : decode cX6_kind 75 = .ok (.getfield 16, 3) := by decide +kernel
theorem dX6_kind_78 : decode cX6_kind 78 = .ok (.invokevirtual 135, 3) := by decide +kernel
theorem dX6_kind_81 : decode cX6_kind 81 = .ok (.iload 6, 2) := by decide +kernel
theorem dX6_kind_83 : decode cX6_kind 83 = .ok (.iload 4, 2) := by decide +kernel
theorem dX6_kind_85 : decode cX6_kind 85 = .ok (.if_icmp .le 8, 3) := by decide +kernel
theorem dX6_kind_88 : decode cX6_kind 88 = .ok (.iload 5, 2) := by decide +kernel
theorem dX6_kind_90 : decode cX6_kind 90 = .ok (.goto 4, 3) := by decide +kernel
theorem dX6_kind_93 : decode cX6_kind 93 = .ok (.iload_n 3, 1) := by decide +kernel
theorem dX6_kind_94 : decode cX6_kind 94 = .ok (.istore_n 3, 1) := by decide +kernel
theorem dX6_kind_95 : decode cX6_kind 95 = .ok (.iload 6, 2) := by decide +kernel
theorem dX6_kind_97 : decode cX6_kind 97 = .ok (.iload 4, 2) := by decide +kernel
theorem dX6_kind_99 : decode cX6_kind 99 = .ok (.if_icmp .le 8, 3) := by decide +kernel
theorem dX6_kind_102 : decode cX6_kind 102 = .ok (.iload 6, 2) := by decide +kernel
theorem dX6_kind_104 : decode cX6_kind 104 = .ok (.goto 5, 3) := by decide +kernel
theorem dX6_kind_107 : decode cX6_kind 107 = .ok (.iload 4, 2) := by decide +kernel
theorem dX6_kind_109 : decode cX6_kind 109 = .ok (.istore 4, 2) := by decide +kernel
theorem dX6_kind_111 : decode cX6_kind 111 = .ok (.iinc 5 1, 3) := by decide +kernel
theorem dX6_kind_114 : decode cX6_kind 114 = .ok (.goto (-72), 3) := by decide +kernel
theorem dX6_kind_117 : decode cX6_kind 117 = .ok (.iload_n 3, 1) := by decide +kernel
theorem dX6_kind_118 : decode cX6_kind 118 = .ok (.ireturn, 1) := by decide +kernel
theorem dX6_enough_0 : decode cX6_enough 0 = .ok (.iload_n 1, 1) := by decide +kernel
theorem dX6_enough_1 : decode cX6_enough 1 = .ok (.iconst 1, 1) := by decide +kernel
theorem dX6_enough_2 : decode cX6_enough 2 = .ok (.bipush 60, 2) := by decide +kernel
theorem dX6_enough_4 : decode cX6_enough 4 = .ok (.invokestatic 45, 3) := by decide +kernel
theorem dX6_enough_7 : decode cX6_enough 7 = .ok (.ifCond .ne 10, 3) := by decide +kernel
theorem dX6_enough_10 : decode cX6_enough 10 = .ok (.aload_n 0, 1) := by decide +kernel
theorem dX6_enough_11 : decode cX6_enough 11 = .ok (.ldc 44, 2) := by decide +kernel
theorem dX6_enough_13 : decode cX6_enough 13 = .ok (.invokevirtual 53, 3) := by decide +kernel
theorem dX6_enough_16 : decode cX6_enough 16 = .ok (.ireturn, 1) := by decide +kernel
theorem dX6_enough_17 : decode cX6_enough 17 = .ok (.iconst (-1), 1) := by decide +kernel
theorem dX6_enough_18 : decode cX6_enough 18 = .ok (.istore_n 2, 1) := by decide +kernel
theorem dX6_enough_19 : decode cX6_enough 19 = .ok (.iconst 0, 1) := by decide +kernel
theorem dX6_enough_20 : decode cX6_enough 20 = .ok (.istore_n 3, 1) := by decide +kernel
theorem dX6_enough_21 : decode cX6_enough 21 = .ok (.aload_n 0, 1) := by decide +kernel
theorem dX6_enough_22 : decode cX6_enough 22 = .ok (.iconst 1, 1) := by decide +kernel
theorem dX6_enough_23 : decode cX6_enough 23 = .ok (.aload_n 0, 1) := by decide +kernel
theorem dX6_enough_24 : decode cX6_enough 24 = .ok (.getfield 16, 3) := by decide +kernel
theorem dX6_enough_27 : decode cX6_enough 27 = .ok (.invokevirtual 135, 3) := by decide +kernel
theorem dX6_enough_30 : decode cX6_enough 30 = .ok (.iload_n 2, 1) := by decide +kernel
theorem dX6_enough_31 : decode cX6_enough 31 = .ok (.sipush 999, 3) := by decide +kernel
theorem dX6_enough_34 : decode cX6_enough 34 = .ok (.if_icmp .ge 75, 3) := by decide +kernel
theorem dX6_enough_37 : decode cX6_enough 37 = .ok (.iload_n 3, 1) := by decide +kernel
theorem dX6_enough_38 : decode cX6_enough 38 = .ok (.ifCond .ne 71, 3) := by decide +kernel
theorem dX6_enough_41 : decode cX6_enough 41 = .ok (.iinc 2 1, 3) := by decide +kernel
theorem dX6_enough_44 : decode cX6_enough 44 = .ok (.aload_n 0, 1) := by decide +kernel
theorem dX6_enough_45 : decode cX6_enough 45 = .ok (.getfield 7, 3) := by decide +kernel
theorem dX6_enough_48 : decode cX6_enough 48 = .ok (.iconst 2, 1) := by decide +kernel
theorem dX6_enough_49 : decode cX6_enough 49 = .ok (.iload_n 2, 1) := by decide +kernel
theorem dX6_enough_50 : decode cX6_enough 50 = .ok (.iastore, 1) := by decide +kernel
theorem dX6_enough_51 : decode cX6_enough 51 = .ok (.iconst 1, 1) := by decide +kernel
theorem dX6_enough_52 : decode cX6_enough 52 = .ok (.istore_n 3, 1) := by decide +kernel
theorem dX6_enough_53 : decode cX6_enough 53 = .ok (.iconst 0, 1) := by decide +kernel
theorem dX6_enough_54 : decode cX6_enough 54 = .ok (.istore 4, 2) := by decide +kernel
theorem dX6_enough_56 : decode cX6_enough 56 = .ok (.iload 4, 2) := by decide +kernel
theorem dX6_enough_58 : decode cX6_enough 58 = .ok (.iload_n 1, 1) := by decide +kernel
theorem dX6_enough_59 : decode cX6_enough 59 = .ok (.if_icmp .ge 38, 3) := by decide +kernel
theorem dX6_enough_62 : decode cX6_enough 62 = .ok (.iload_n 3, 1) := by decide +kernel
theorem dX6_enough_63 : decode cX6_enough 63 = .ok (.ifCond .eq 34, 3) := by decide +kernel
theorem dX6_enough_66 : decode cX6_enough 66 = .ok (.aload_n 0, 1) := by decide +kernel
theorem dX6_enough_67 : decode cX6_enough 67 = .ok (.invokevirtual 128, 3) := by decide +kernel
theorem dX6_enough_70 : decode cX6_enough 70 = .ok (.aload_n 0, 1) := by decide +kernel
theorem dX6_enough_71 : decode cX6_enough 71 = .ok (.getfield 7, 3) := by decide +kernel
theorem dX6_enough_74 : decode cX6_enough 74 = .ok (.iconst 5, 1) := by decide +kernel
theorem dX6_enough_75 : decode cX6_enough 75 = .ok (.iaload, 1) := by decide +kernel
theorem dX6_enough_76 : decode cX6_enough 76 = .ok (.aload_n 0, 1) := by decide +kernel
theorem dX6_enough_77 : decode cX6_enough 77 = .ok (.getfield 16, 3) := by decide +kernel
theorem dX6_enough_80 : decode cX6_enough 80 = .ok (.iconst 5, 1) := by decide +kernel
theorem dX6_enough_81 : decode cX6_enough 81 = .ok (.iaload, 1) := by decide +kernel
theorem dX6_enough_82 : decode cX6_enough 82 = .ok (.if_icmp .ne 7, 3) := by decide +kernel
theorem dX6_enough_85 : decode cX6_enough 85 = .ok (.iconst 1, 1) := by decide +kernel
theorem dX6_enough_86 : decode cX6_enough 86 = .ok (.goto 4, 3) := by decide +kernel
theorem dX6_enough_89 : decode cX6_enough 89 = .ok (.iconst 0, 1) := by decide +kernel
theorem dX6_enough_90 : decode cX6_enough 90 = .ok (.istore_n 3, 1) := by decide +kernel
theorem dX6_enough_91 : decode cX6_enough 91 = .ok (.iinc 4 1, 3) := by decide +kernel
theorem dX6_enough_94 : decode cX6_enough 94 = .ok (.goto (-38), 3) := by decide +kernel
theorem dX6_enough_97 : decode cX6_enough 97 = .ok (.aload_n 0, 1) := by decide +kernel
theorem dX6_enough_98 : decode cX6_enough 98 = .ok (.iconst 0, 1) := by decide +kernel
theorem dX6_enough_99 : decode cX6_enough 99 = .ok (.aload_n 0, 1) := by decide +kernel
theorem dX6_enough_100 : decode cX6_enough 100 = .ok (.getfield 16, 3) := by decide +kernel
theorem dX6_enough_103 : decode cX6_enough 103 = .ok (.invokevirtual 135, 3) := by decide +kernel
theorem dX6_enough_106 : decode cX6_enough 106 = .ok (.goto (-76), 3) := by decide +kernel
theorem dX6_enough_109 : decode cX6_enough 109 = .ok (.iload_n 3, 1) := by decide +kernel
theorem dX6_enough_110 : decode cX6_enough 110 = .ok (.ifCond .eq 7, 3) := by decide +kernel
theorem dX6_enough_113 : decode cX6_enough 113 = .ok (.iload_n 2, 1) := by decide +kernel
theorem dX6_enough_114 : decode cX6_enough 114 = .ok (.goto 9, 3) := by decide +kernel
theorem dX6_enough_117 : decode cX6_enough 117 = .ok (.aload_n 0, 1) := by decide +kernel
theorem dX6_enough_118 : decode cX6_enough 118 = .ok (.ldc 142, 2) := by decide +kernel
theorem dX6_enough_120 : decode cX6_enough 120 = .ok (.invokevirtual 53, 3) := by decide +kernel
theorem dX6_enough_123 : decode cX6_enough 123 = .ok (.ireturn, 1) := by decide +kernel
theorem dX6_wordsOfAll_0 : decode cX6_wordsOfAll 0 = .ok (.iconst 0, 1) := by decide +kernel
theorem dX6_wordsOfAll_1 : decode cX6_wordsOfAll 1 = .ok (.istore_n 1, 1) := by decide +kernel
theorem dX6_wordsOfAll_2 : decode cX6_wordsOfAll 2 = .ok (.iconst 0, 1) := by decide +kernel
theorem dX6_wordsOfAll_3 : decode cX6_wordsOfAll 3 = .ok (.istore_n 2, 1) := by decide +kernel
theorem dX6_wordsOfAll_4 : decode cX6_wordsOfAll 4 = .ok (.iload_n 2, 1) := by decide +kernel
theorem dX6_wordsOfAll_5 : decode cX6_wordsOfAll 5 = .ok (.aload_n 0, 1) := by decide +kernel
theorem dX6_wordsOfAll_6 : decode cX6_wordsOfAll 6 = .ok (.getfield 7, 3) := by decide +kernel
theorem dX6_wordsOfAll_9 : decode cX6_wordsOfAll 9 = .ok (.bipush 6, 2) := by decide +kernel
theorem dX6_wordsOfAll_11 : decode cX6_wordsOfAll 11 = .ok (.iaload, 1) := by decide +kernel
theorem dX6_wordsOfAll_12 : decode cX6_wordsOfAll 12 = .ok (.if_icmp .ge 21, 3) := by decide +kernel
theorem dX6_wordsOfAll_15 : decode cX6_wordsOfAll 15 = .ok (.iload_n 1, 1) := by decide +kernel
theorem dX6_wordsOfAll_16 : decode cX6_wordsOfAll 16 = .ok (.aload_n 0, 1) := by decide +kernel
theorem dX6_wordsOfAll_17 : decode cX6_wordsOfAll 17 = .ok (.iload_n 2, 1) := by decide +kernel
theorem dX6_wordsOfAll_18 : decode cX6_wordsOfAll 18 = .ok (.iconst 3, 1) := by decide +kernel
theorem dX6_wordsOfAll_19 : decode cX6_wordsOfAll 19 = .ok (.invokevirtual 60, 3) := by decide +kernel
theorem dX6_wordsOfAll_22 : decode cX6_wordsOfAll 22 = .ok (.invokestatic 104, 3) := by decide +kernel
theorem dX6_wordsOfAll_25 : decode cX6_wordsOfAll 25 = .ok (.iadd, 1) := by decide +kernel
theorem dX6_wordsOfAll_26 : decode cX6_wordsOfAll 26 = .ok (.istore_n 1, 1) := by decide +kernel
theorem dX6_wordsOfAll_27 : decode cX6_wordsOfAll 27 = .ok (.iinc 2 1, 3) := by decide +kernel
theorem dX6_wordsOfAll_30 : decode cX6_wordsOfAll 30 = .ok (.goto (-26), 3) := by decide +kernel
theorem dX6_wordsOfAll_33 : decode cX6_wordsOfAll 33 = .ok (.iload_n 1, 1) := by decide +kernel
theorem dX6_wordsOfAll_34 : decode cX6_wordsOfAll 34 = .ok (.ireturn, 1) := by decide +kernel
theorem dX6_beds_0 : decode cX6_beds 0 = .ok (.iload_n 1, 1) := by decide +kernel
theorem dX6_beds_1 : decode cX6_beds 1 = .ok (.iconst 1, 1) := by decide +kernel
theorem dX6_beds_2 : decode cX6_beds 2 = .ok (.bipush 100, 2) := by decide +kernel
theorem dX6_beds_4 : decode cX6_beds 4 = .ok (.invokestatic 45, 3) := by decide +kernel
theorem dX6_beds_7 : decode cX6_beds 7 = .ok (.ifCond .ne 10, 3) := by decide +kernel
theorem dX6_beds_10 : decode cX6_beds 10 = .ok (.aload_n 0, 1) := by decide +kernel
theorem dX6_beds_11 : decode cX6_beds 11 = .ok (.ldc 44, 2) := by decide +kernel
theorem dX6_beds_13 : decode cX6_beds 13 = .ok (.invokevirtual 53, 3) := by decide +kernel
theorem dX6_beds_16 : decode cX6_beds 16 = .ok (.ireturn, 1) := by decide +kernel
theorem dX6_beds_17 : decode cX6_beds 17 = .ok (.iconst 1, 1) := by decide +kernel
theorem dX6_beds_18 : decode cX6_beds 18 = .ok (.istore_n 2, 1) := by decide +kernel
theorem dX6_beds_19 : decode cX6_beds 19 = .ok (.iconst (-1), 1) := by decide +kernel
theorem dX6_beds_20 : decode cX6_beds 20 = .ok (.istore_n 3, 1) := by decide +kernel
theorem dX6_beds_21 : decode cX6_beds 21 = .ok (.aload_n 0, 1) := by decide +kernel
theorem dX6_beds_22 : decode cX6_beds 22 = .ok (.iconst 1, 1) := by decide +kernel
theorem dX6_beds_23 : decode cX6_beds 23 = .ok (.aload_n 0, 1) := by decide +kernel
theorem dX6_beds_24 : decode cX6_beds 24 = .ok (.getfield 16, 3) := by decide +kernel
theorem dX6_beds_27 : decode cX6_beds 27 = .ok (.invokevirtual 135, 3) := by decide +kernel
theorem dX6_beds_30 : decode cX6_beds 30 = .ok (.iconst 1, 1) := by decide +kernel
theorem dX6_beds_31 : decode cX6_beds 31 = .ok (.istore 4, 2) := by decide +kernel
theorem dX6_beds_33 : decode cX6_beds 33 = .ok (.iload 4, 2) := by decide +kernel
theorem dX6_beds_35 : decode cX6_beds 35 = .ok (.iconst 3, 1) := by decide +kernel
theorem dX6_beds_36 : decode cX6_beds 36 = .ok (.if_icmp .gt 63, 3) := by decide +kernel
theorem dX6_beds_39 : decode cX6_beds 39 = .ok (.aload_n 0, 1) := by decide +kernel
theorem dX6_beds_40 : decode cX6_beds 40 = .ok (.getfield 7, 3) := by decide +kernel
theorem dX6_beds_43 : decode cX6_beds 43 = .ok (.iconst 3, 1) := by decide +kernel
theorem dX6_beds_44 : decode cX6_beds 44 = .ok (.iload 4, 2) := by decide +kernel
theorem dX6_beds_46 : decode cX6_beds 46 = .ok (.iastore, 1) := by decide +kernel
theorem dX6_beds_47 : decode cX6_beds 47 = .ok (.aload_n 0, 1) := by decide +kernel
theorem dX6_beds_48 : decode cX6_beds 48 = .ok (.iload_n 1, 1) := by decide +kernel
theorem dX6_beds_49 : decode cX6_beds 49 = .ok (.invokevirtual 132, 3) := by decide +kernel
theorem dX6_beds_52 : decode cX6_beds 52 = .ok (.aload_n 0, 1) := by decide +kernel
theorem dX6_beds_53 : decode cX6_beds 53 = .ok (.invokevirtual 143, 3) := by decide +kernel
theorem dX6_beds_56 : decode cX6_beds 56 = .ok (.istore 5, 2) := by decide +kernel
theorem dX6_beds_58 : decode cX6_beds 58 = .ok (.aload_n 0, 1) := by decide +kernel
theorem dX6_beds_59 : decode cX6_beds 59 = .ok (.iconst 0, 1) := by decide +kernel
theorem dX6_beds_60 : decode cX6_beds 60 = .ok (.aload_n 0, 1) := by decide +kernel
theorem dX6_beds_61 : decode cX6_beds 61 = .ok (.getfield 16, 3) := by decide +kernel
theorem dX6_beds_64 : decode cX6_beds 64 = .ok (.invokevirtual 135, 3) := by decide +kernel
theorem dX6_beds_67 : decode cX6_beds 67 = .ok (.iload 5, 2) := by decide +kernel
theorem dX6_beds_69 : decode cX6_beds 69 = .ok (.iload_n 3, 1) := by decide +kernel
theorem dX6_beds_70 : decode cX6_beds 70 = .ok (.if_icmp .le 8, 3) := by decide +kernel
theorem dX6_beds_73 : decode cX6_beds 73 = .ok (.iload 4, 2) := by decide +kernel
theorem dX6_beds_75 : decode cX6_beds 75 = .ok (.goto 4, 3) := by decide +kernel
theorem dX6_beds_78 : decode cX6_beds 78 = .ok (.iload_n 2, 1) := by decide +kernel
theorem dX6_beds_79 : decode cX6_beds 79 = .ok (.istore_n 2, 1) := by decide +kernel
theorem dX6_beds_80 : decode cX6_beds 80 = .ok (.iload 5, 2) := by decide +kernel
theorem dX6_beds_82 : decode cX6_beds 82 = .ok (.iload_n 3, 1) := by decide +kernel
theorem dX6_beds_83 : decode cX6_beds 83 = .ok (.if_icmp .le 8, 3) := by decide +kernel
theorem dX6_beds_86 : decode cX6_beds 86 = .ok (.iload 5, 2) := by decide +kernel
theorem dX6_beds_88 : decode cX6_beds 88 = .ok (.goto 4, 3) := by decide +kernel
theorem dX6_beds_91 : decode cX6_beds 91 = .ok (.iload_n 3, 1) := by decide +kernel
theorem dX6_beds_92 : decode cX6_beds 92 = .ok (.istore_n 3, 1) := by decide +kernel
theorem dX6_beds_93 : decode cX6_beds 93 = .ok (.iinc 4 1, 3) := by decide +kernel
theorem dX6_beds_96 : decode cX6_beds 96 = .ok (.goto (-63), 3) := by decide +kernel
theorem dX6_beds_99 : decode cX6_beds 99 = .ok (.iload_n 2, 1) := by decide +kernel
theorem dX6_beds_100 : decode cX6_beds 100 = .ok (.ireturn, 1) := by decide +kernel
theorem dX6_storm_0 : decode cX6_storm 0 = .ok (.iconst (-1), 1) := by decide +kernel
theorem dX6_storm_1 : decode cX6_storm 1 = .ok (.istore_n 1, 1) := by decide +kernel
theorem dX6_storm_2 : decode cX6_storm 2 = .ok (.aload_n 0, 1) := by decide +kernel
theorem dX6_storm_3 : decode cX6_storm 3 = .ok (.bipush 100, 2) := by decide +kernel
theorem dX6_storm_5 : decode cX6_storm 5 = .ok (.invokevirtual 139, 3) := by decide +kernel
theorem dX6_storm_8 : decode cX6_storm 8 = .ok (.istore_n 2, 1) := by decide +kernel
theorem dX6_storm_9 : decode cX6_storm 9 = .ok (.iconst 0, 1) := by decide +kernel
theorem dX6_storm_10 : decode cX6_storm 10 = .ok (.istore_n 3, 1) := by decide +kernel
theorem dX6_storm_11 : decode cX6_storm 11 = .ok (.iload_n 3, 1) := by decide +kernel
theorem dX6_storm_12 : decode cX6_storm 12 = .ok (.bipush 28, 2) := by decide +kernel
theorem dX6_storm_14 : decode cX6_storm 14 = .ok (.if_icmp .ge 65, 3) := by decide +kernel
theorem dX6_storm_17 : decode cX6_storm 17 = .ok (.aload_n 0, 1) := by decide +kernel
theorem dX6_storm_18 : decode cX6_storm 18 = .ok (.bipush 7, 2) := by decide +kernel
theorem dX6_storm_20 : decode cX6_storm 20 = .ok (.iload_n 3, 1) := by decide +kernel
theorem dX6_storm_21 : decode cX6_storm 21 = .ok (.iadd, 1) := by decide +kernel
theorem dX6_storm_22 : decode cX6_storm 22 = .ok (.bipush 12, 2) := by decide +kernel
theorem dX6_storm_24 : decode cX6_storm 24 = .ok (.invokevirtual 49, 3) := by decide +kernel
theorem dX6_storm_27 : decode cX6_storm 27 = .ok (.istore 4, 2) := by decide +kernel
theorem dX6_storm_29 : decode cX6_storm 29 = .ok (.aload_n 0, 1) := by decide +kernel
theorem dX6_storm_30 : decode cX6_storm 30 = .ok (.bipush 100, 2) := by decide +kernel
theorem dX6_storm_32 : decode cX6_storm 32 = .ok (.invokevirtual 139, 3) := by decide +kernel
theorem dX6_storm_35 : decode cX6_storm 35 = .ok (.istore 5, 2) := by decide +kernel
theorem dX6_storm_37 : decode cX6_storm 37 = .ok (.aload_n 0, 1) := by decide +kernel
theorem dX6_storm_38 : decode cX6_storm 38 = .ok (.getfield 7, 3) := by decide +kernel
theorem dX6_storm_41 : decode cX6_storm 41 = .ok (.bipush 7, 2) := by decide +kernel
theorem dX6_storm_43 : decode cX6_storm 43 = .ok (.iload_n 3, 1) := by decide +kernel
theorem dX6_storm_44 : decode cX6_storm 44 = .ok (.iadd, 1) := by decide +kernel
theorem dX6_storm_45 : decode cX6_storm 45 = .ok (.iload 4, 2) := by decide +kernel
theorem dX6_storm_47 : decode cX6_storm 47 = .ok (.iastore, 1) := by decide +kernel
theorem dX6_storm_48 : decode cX6_storm 48 = .ok (.iload 5, 2) := by decide +kernel
theorem dX6_storm_50 : decode cX6_storm 50 = .ok (.iload_n 2, 1) := by decide +kernel
theorem dX6_storm_51 : decode cX6_storm 51 = .ok (.if_icmp .ge 7, 3) := by decide +kernel
theorem dX6_storm_54 : decode cX6_storm 54 = .ok (.iload_n 3, 1) := by decide +kernel
theorem dX6_storm_55 : decode cX6_storm 55 = .ok (.goto 4, 3) := by decide +kernel
theorem dX6_storm_58 : decode cX6_storm 58 = .ok (.iload_n 1, 1) := by decide +kernel
theorem dX6_storm_59 : decode cX6_storm 59 = .ok (.istore_n 1, 1) := by decide +kernel
theorem dX6_storm_60 : decode cX6_storm 60 = .ok (.iload 5, 2) := by decide +kernel
theorem dX6_storm_62 : decode cX6_storm 62 = .ok (.iload_n 2, 1) := by decide +kernel
theorem dX6_storm_63 : decode cX6_storm 63 = .ok (.if_icmp .ge 8, 3) := by decide +kernel
theorem dX6_storm_66 : decode cX6_storm 66 = .ok (.iload 5, 2) := by decide +kernel
theorem dX6_storm_68 : decode cX6_storm 68 = .ok (.goto 4, 3) := by decide +kernel
theorem dX6_storm_71 : decode cX6_storm 71 = .ok (.iload_n 2, 1) := by decide +kernel
theorem dX6_storm_72 : decode cX6_storm 72 = .ok (.istore_n 2, 1) := by decide +kernel
theorem dX6_storm_73 : decode cX6_storm 73 = .ok (.iinc 3 1, 3) := by decide +kernel
theorem dX6_storm_76 : decode cX6_storm 76 = .ok (.goto (-65), 3) := by decide +kernel
theorem dX6_storm_79 : decode cX6_storm 79 = .ok (.iload_n 1, 1) := by decide +kernel
theorem dX6_storm_80 : decode cX6_storm 80 = .ok (.ifCond .ge 12, 3) := by decide +kernel
theorem dX6_storm_83 : decode cX6_storm 83 = .ok (.aload_n 0, 1) := by decide +kernel
theorem dX6_storm_84 : decode cX6_storm 84 = .ok (.ldc 142, 2) := by decide +kernel
theorem dX6_storm_86 : decode cX6_storm 86 = .ok (.invokevirtual 53, 3) := by decide +kernel
theorem dX6_storm_89 : decode cX6_storm 89 = .ok (.goto 4, 3) := by decide +kernel
theorem dX6_storm_92 : decode cX6_storm 92 = .ok (.iload_n 1, 1) := by decide +kernel
theorem dX6_storm_93 : decode cX6_storm 93 = .ok (.ireturn, 1) := by decide +kernel
theorem dX6_change_0 : decode cX6_change 0 = .ok (.iload_n 1, 1) := by decide +kernel
theorem dX6_change_1 : decode cX6_change 1 = .ok (.iconst 1, 1) := by decide +kernel
theorem dX6_change_2 : decode cX6_change 2 = .ok (.bipush 60, 2) := by decide +kernel
theorem dX6_change_4 : decode cX6_change 4 = .ok (.invokestatic 45, 3) := by decide +kernel
theorem dX6_change_7 : decode cX6_change 7 = .ok (.ifCond .ne 10, 3) := by decide +kernel
theorem dX6_change_10 : decode cX6_change 10 = .ok (.aload_n 0, 1) := by decide +kernel
theorem dX6_change_11 : decode cX6_change 11 = .ok (.ldc 44, 2) := by decide +kernel
theorem dX6_change_13 : decode cX6_change 13 = .ok (.invokevirtual 53, 3) := by decide +kernel
theorem dX6_change_16 : decode cX6_change 16 = .ok (.ireturn, 1) := by decide +kernel
theorem dX6_change_17 : decode cX6_change 17 = .ok (.iconst (-1), 1) := by decide +kernel
theorem dX6_change_18 : decode cX6_change 18 = .ok (.istore_n 2, 1) := by decide +kernel
theorem dX6_change_19 : decode cX6_change 19 = .ok (.aload_n 0, 1) := by decide +kernel
theorem dX6_change_20 : decode cX6_change 20 = .ok (.iconst 1, 1) := by decide +kernel
theorem dX6_change_21 : decode cX6_change 21 = .ok (.aload_n 0, 1) := by decide +kernel
theorem dX6_change_22 : decode cX6_change 22 = .ok (.getfield 16, 3) := by decide +kernel
theorem dX6_change_25 : decode cX6_change 25 = .ok (.invokevirtual 135, 3) := by decide +kernel
theorem dX6_change_28 : decode cX6_change 28 = .ok (.aload_n 0, 1) := by decide +kernel
theorem dX6_change_29 : decode cX6_change 29 = .ok (.iload_n 1, 1) := by decide +kernel
theorem dX6_change_30 : decode cX6_change 30 = .ok (.invokevirtual 132, 3) := by decide +kernel
theorem dX6_change_33 : decode cX6_change 33 = .ok (.aload_n 0, 1) := by decide +kernel
theorem dX6_change_34 : decode cX6_change 34 = .ok (.getfield 7, 3) := by decide +kernel
