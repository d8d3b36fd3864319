theorem dX6_init_0 : decode cX6_init 0 = .ok (.aload_n 0, 1) := by decide +kernel
theorem dX6_init_1 : decode cX6_init 1 = .ok (.invokespecial 1, 3) := by decide +kernel
theorem dX6_init_4 : decode cX6_init 4 = .ok (.aload_n 0, 1) := by decide +kernel
theorem dX6_init_5 : decode cX6_init 5 = .ok (.bipush 75, 2) := by decide +kernel
theorem dX6_init_7 : decode cX6_init 7 = .ok (.newarray .int, 2) := by decide +kernel
theorem dX6_init_9 : decode cX6_init 9 = .ok (.putfield 7, 3) := by decide +kernel
theorem dX6_init_12 : decode cX6_init 12 = .ok (.aload_n 0, 1) := by decide +kernel
theorem dX6_init_13 : decode cX6_init 13 = .ok (.bipush 7, 2) := by decide +kernel
theorem dX6_init_15 : decode cX6_init 15 = .ok (.newarray .int, 2) := by decide +kernel
theorem dX6_init_17 : decode cX6_init 17 = .ok (.putfield 13, 3) := by decide +kernel
theorem dX6_init_20 : decode cX6_init 20 = .ok (.aload_n 0, 1) := by decide +kernel
theorem dX6_init_21 : decode cX6_init 21 = .ok (.bipush 75, 2) := by decide +kernel
theorem dX6_init_23 : decode cX6_init 23 = .ok (.newarray .int, 2) := by decide +kernel
theorem dX6_init_25 : decode cX6_init 25 = .ok (.putfield 16, 3) := by decide +kernel
theorem dX6_init_28 : decode cX6_init 28 = .ok (.aload_n 0, 1) := by decide +kernel
theorem dX6_init_29 : decode cX6_init 29 = .ok (.bipush 75, 2) := by decide +kernel
theorem dX6_init_31 : decode cX6_init 31 = .ok (.newarray .int, 2) := by decide +kernel
theorem dX6_init_33 : decode cX6_init 33 = .ok (.putfield 19, 3) := by decide +kernel
theorem dX6_init_36 : decode cX6_init 36 = .ok (.aload_n 0, 1) := by decide +kernel
theorem dX6_init_37 : decode cX6_init 37 = .ok (.bipush 120, 2) := by decide +kernel
theorem dX6_init_39 : decode cX6_init 39 = .ok (.newarray .int, 2) := by decide +kernel
theorem dX6_init_41 : decode cX6_init 41 = .ok (.putfield 22, 3) := by decide +kernel
theorem dX6_init_44 : decode cX6_init 44 = .ok (.aload_n 0, 1) := by decide +kernel
theorem dX6_init_45 : decode cX6_init 45 = .ok (.iconst 4, 1) := by decide +kernel
theorem dX6_init_46 : decode cX6_init 46 = .ok (.newarray .int, 2) := by decide +kernel
theorem dX6_init_48 : decode cX6_init 48 = .ok (.putfield 25, 3) := by decide +kernel
theorem dX6_init_51 : decode cX6_init 51 = .ok (.aload_n 0, 1) := by decide +kernel
theorem dX6_init_52 : decode cX6_init 52 = .ok (.iconst 4, 1) := by decide +kernel
theorem dX6_init_53 : decode cX6_init 53 = .ok (.newarray .int, 2) := by decide +kernel
theorem dX6_init_55 : decode cX6_init 55 = .ok (.putfield 28, 3) := by decide +kernel
theorem dX6_init_58 : decode cX6_init 58 = .ok (.aload_n 0, 1) := by decide +kernel
theorem dX6_init_59 : decode cX6_init 59 = .ok (.sipush 160, 3) := by decide +kernel
theorem dX6_init_62 : decode cX6_init 62 = .ok (.newarray .long, 2) := by decide +kernel
theorem dX6_init_64 : decode cX6_init 64 = .ok (.putfield 31, 3) := by decide +kernel
theorem dX6_init_67 : decode cX6_init 67 = .ok (.aload_n 0, 1) := by decide +kernel
theorem dX6_init_68 : decode cX6_init 68 = .ok (.bipush 40, 2) := by decide +kernel
theorem dX6_init_70 : decode cX6_init 70 = .ok (.newarray .long, 2) := by decide +kernel
theorem dX6_init_72 : decode cX6_init 72 = .ok (.putfield 35, 3) := by decide +kernel
theorem dX6_init_75 : decode cX6_init 75 = .ok (.aload_n 0, 1) := by decide +kernel
theorem dX6_init_76 : decode cX6_init 76 = .ok (.bipush 75, 2) := by decide +kernel
theorem dX6_init_78 : decode cX6_init 78 = .ok (.newarray .int, 2) := by decide +kernel
theorem dX6_init_80 : decode cX6_init 80 = .ok (.putfield 38, 3) := by decide +kernel
theorem dX6_init_83 : decode cX6_init 83 = .ok (.aload_n 0, 1) := by decide +kernel
theorem dX6_init_84 : decode cX6_init 84 = .ok (.bipush 75, 2) := by decide +kernel
theorem dX6_init_86 : decode cX6_init 86 = .ok (.newarray .int, 2) := by decide +kernel
theorem dX6_init_88 : decode cX6_init 88 = .ok (.putfield 41, 3) := by decide +kernel
theorem dX6_init_91 : decode cX6_init 91 = .ok (.aload_n 0, 1) := by decide +kernel
theorem dX6_init_92 : decode cX6_init 92 = .ok (.getfield 7, 3) := by decide +kernel
theorem dX6_init_95 : decode cX6_init 95 = .ok (.iconst 1, 1) := by decide +kernel
theorem dX6_init_96 : decode cX6_init 96 = .ok (.bipush 9, 2) := by decide +kernel
theorem dX6_init_98 : decode cX6_init 98 = .ok (.iastore, 1) := by decide +kernel
theorem dX6_init_99 : decode cX6_init 99 = .ok (.aload_n 0, 1) := by decide +kernel
theorem dX6_init_100 : decode cX6_init 100 = .ok (.getfield 7, 3) := by decide +kernel
theorem dX6_init_103 : decode cX6_init 103 = .ok (.iconst 2, 1) := by decide +kernel
theorem dX6_init_104 : decode cX6_init 104 = .ok (.bipush 100, 2) := by decide +kernel
theorem dX6_init_106 : decode cX6_init 106 = .ok (.iastore, 1) := by decide +kernel
theorem dX6_init_107 : decode cX6_init 107 = .ok (.aload_n 0, 1) := by decide +kernel
theorem dX6_init_108 : decode cX6_init 108 = .ok (.getfield 7, 3) := by decide +kernel
theorem dX6_init_111 : decode cX6_init 111 = .ok (.iconst 3, 1) := by decide +kernel
theorem dX6_init_112 : decode cX6_init 112 = .ok (.iconst 2, 1) := by decide +kernel
theorem dX6_init_113 : decode cX6_init 113 = .ok (.iastore, 1) := by decide +kernel
theorem dX6_init_114 : decode cX6_init 114 = .ok (.iconst 0, 1) := by decide +kernel
theorem dX6_init_115 : decode cX6_init 115 = .ok (.istore_n 1, 1) := by decide +kernel
theorem dX6_init_116 : decode cX6_init 116 = .ok (.iload_n 1, 1) := by decide +kernel
theorem dX6_init_117 : decode cX6_init 117 = .ok (.bipush 28, 2) := by decide +kernel
theorem dX6_init_119 : decode cX6_init 119 = .ok (.if_icmp .ge 24, 3) := by decide +kernel
theorem dX6_init_122 : decode cX6_init 122 = .ok (.aload_n 0, 1) := by decide +kernel
theorem dX6_init_123 : decode cX6_init 123 = .ok (.getfield 7, 3) := by decide +kernel
theorem dX6_init_126 : decode cX6_init 126 = .ok (.bipush 7, 2) := by decide +kernel
theorem dX6_init_128 : decode cX6_init 128 = .ok (.iload_n 1, 1) := by decide +kernel
theorem dX6_init_129 : decode cX6_init 129 = .ok (.iadd, 1) := by decide +kernel
theorem dX6_init_130 : decode cX6_init 130 = .ok (.iconst 5, 1) := by decide +kernel
theorem dX6_init_131 : decode cX6_init 131 = .ok (.iload_n 1, 1) := by decide +kernel
theorem dX6_init_132 : decode cX6_init 132 = .ok (.imul, 1) := by decide +kernel
theorem dX6_init_133 : decode cX6_init 133 = .ok (.bipush 13, 2) := by decide +kernel
theorem dX6_init_135 : decode cX6_init 135 = .ok (.irem, 1) := by decide +kernel
theorem dX6_init_136 : decode cX6_init 136 = .ok (.iastore, 1) := by decide +kernel
theorem dX6_init_137 : decode cX6_init 137 = .ok (.iinc 1 1, 3) := by decide +kernel
theorem dX6_init_140 : decode cX6_init 140 = .ok (.goto (-24), 3) := by decide +kernel
theorem dX6_init_143 : decode cX6_init 143 = .ok (.return_, 1) := by decide +kernel
theorem dX6_in_0 : decode cX6_in 0 = .ok (.iload_n 0, 1) := by decide +kernel
theorem dX6_in_1 : decode cX6_in 1 = .ok (.iload_n 1, 1) := by decide +kernel
theorem dX6_in_2 : decode cX6_in 2 = .ok (.if_icmp .lt 12, 3) := by decide +kernel
theorem dX6_in_5 : decode cX6_in 5 = .ok (.iload_n 0, 1) := by decide +kernel
theorem dX6_in_6 : decode cX6_in 6 = .ok (.iload_n 2, 1) := by decide +kernel
theorem dX6_in_7 : decode cX6_in 7 = .ok (.if_icmp .gt 7, 3) := by decide +kernel
theorem dX6_in_10 : decode cX6_in 10 = .ok (.iconst 1, 1) := by decide +kernel
theorem dX6_in_11 : decode cX6_in 11 = .ok (.goto 4, 3) := by decide +kernel
theorem dX6_in_14 : decode cX6_in 14 = .ok (.iconst 0, 1) := by decide +kernel
theorem dX6_in_15 : decode cX6_in 15 = .ok (.ireturn, 1) := by decide +kernel
theorem dX6_finds_0 : decode cX6_finds 0 = .ok (.aload_n 0, 1) := by decide +kernel
theorem dX6_finds_1 : decode cX6_finds 1 = .ok (.getfield 13, 3) := by decide +kernel
theorem dX6_finds_4 : decode cX6_finds 4 = .ok (.ldc 44, 2) := by decide +kernel
theorem dX6_finds_6 : decode cX6_finds 6 = .ok (.iload_n 1, 1) := by decide +kernel
theorem dX6_finds_7 : decode cX6_finds 7 = .ok (.isub, 1) := by decide +kernel
theorem dX6_finds_8 : decode cX6_finds 8 = .ok (.dup2, 1) := by decide +kernel
theorem dX6_finds_9 : decode cX6_finds 9 = .ok (.iaload, 1) := by decide +kernel
theorem dX6_finds_10 : decode cX6_finds 10 = .ok (.iconst 1, 1) := by decide +kernel
theorem dX6_finds_11 : decode cX6_finds 11 = .ok (.iadd, 1) := by decide +kernel
theorem dX6_finds_12 : decode cX6_finds 12 = .ok (.iastore, 1) := by decide +kernel
theorem dX6_finds_13 : decode cX6_finds 13 = .ok (.iload_n 1, 1) := by decide +kernel
theorem dX6_finds_14 : decode cX6_finds 14 = .ok (.ireturn, 1) := by decide +kernel
theorem dX6_held_0 : decode cX6_held 0 = .ok (.iload_n 0, 1) := by decide +kernel
theorem dX6_held_1 : decode cX6_held 1 = .ok (.iload_n 1, 1) := by decide +kernel
theorem dX6_held_2 : decode cX6_held 2 = .ok (.if_icmp .ge 7, 3) := by decide +kernel
theorem dX6_held_5 : decode cX6_held 5 = .ok (.iload_n 1, 1) := by decide +kernel
theorem dX6_held_6 : decode cX6_held 6 = .ok (.goto 13, 3) := by decide +kernel
theorem dX6_held_9 : decode cX6_held 9 = .ok (.iload_n 0, 1) := by decide +kernel
theorem dX6_held_10 : decode cX6_held 10 = .ok (.iload_n 2, 1) := by decide +kernel
theorem dX6_held_11 : decode cX6_held 11 = .ok (.if_icmp .le 7, 3) := by decide +kernel
theorem dX6_held_14 : decode cX6_held 14 = .ok (.iload_n 2, 1) := by decide +kernel
theorem dX6_held_15 : decode cX6_held 15 = .ok (.goto 4, 3) := by decide +kernel
theorem dX6_held_18 : decode cX6_held 18 = .ok (.iload_n 0, 1) := by decide +kernel
theorem dX6_held_19 : decode cX6_held 19 = .ok (.ireturn, 1) := by decide +kernel
theorem dX6_its_0 : decode cX6_its 0 = .ok (.aload_n 0, 1) := by decide +kernel
theorem dX6_its_1 : decode cX6_its 1 = .ok (.getfield 7, 3) := by decide +kernel
theorem dX6_its_4 : decode cX6_its 4 = .ok (.bipush 35, 2) := by decide +kernel
theorem dX6_its_6 : decode cX6_its 6 = .ok (.iconst 5, 1) := by decide +kernel
theorem dX6_its_7 : decode cX6_its 7 = .ok (.iload_n 1, 1) := by decide +kernel
theorem dX6_its_8 : decode cX6_its 8 = .ok (.imul, 1) := by decide +kernel
theorem dX6_its_9 : decode cX6_its 9 = .ok (.iadd, 1) := by decide +kernel
theorem dX6_its_10 : decode cX6_its 10 = .ok (.iload_n 2, 1) := by decide +kernel
theorem dX6_its_11 : decode cX6_its 11 = .ok (.iadd, 1) := by decide +kernel
theorem dX6_its_12 : decode cX6_its 12 = .ok (.iaload, 1) := by decide +kernel
theorem dX6_its_13 : decode cX6_its 13 = .ok (.ireturn, 1) := by decide +kernel
theorem dX6_puts_0 : decode cX6_puts 0 = .ok (.aload_n 0, 1) := by decide +kernel
theorem dX6_puts_1 : decode cX6_puts 1 = .ok (.getfield 7, 3) := by decide +kernel
theorem dX6_puts_4 : decode cX6_puts 4 = .ok (.bipush 35, 2) := by decide +kernel
theorem dX6_puts_6 : decode cX6_puts 6 = .ok (.iconst 5, 1) := by decide +kernel
theorem dX6_puts_7 : decode cX6_puts 7 = .ok (.iload_n 1, 1) := by decide +kernel
theorem dX6_puts_8 : decode cX6_puts 8 = .ok (.imul, 1) := by decide +kernel
theorem dX6_puts_9 : decode cX6_puts 9 = .ok (.iadd, 1) := by decide +kernel
theorem dX6_puts_10 : decode cX6_puts 10 = .ok (.iload_n 2, 1) := by decide +kernel
theorem dX6_puts_11 : decode cX6_puts 11 = .ok (.iadd, 1) := by decide +kernel
theorem dX6_puts_12 : decode cX6_puts 12 = .ok (.iload_n 3, 1) := by decide +kernel
theorem dX6_puts_13 : decode cX6_puts 13 = .ok (.iastore, 1) := by decide +kernel
theorem dX6_puts_14 : decode cX6_puts 14 = .ok (.return_, 1) := by decide +kernel
theorem dX6_becomes_0 : decode cX6_becomes 0 = .ok (.aload_n 0, 1) := by decide +kernel
theorem dX6_becomes_1 : decode cX6_becomes 1 = .ok (.getfield 7, 3) := by decide +kernel
theorem dX6_becomes_4 : decode cX6_becomes 4 = .ok (.iload_n 1, 1) := by decide +kernel
theorem dX6_becomes_5 : decode cX6_becomes 5 = .ok (.iaload, 1) := by decide +kernel
theorem dX6_becomes_6 : decode cX6_becomes 6 = .ok (.istore_n 3, 1) := by decide +kernel
theorem dX6_becomes_7 : decode cX6_becomes 7 = .ok (.aload_n 0, 1) := by decide +kernel
theorem dX6_becomes_8 : decode cX6_becomes 8 = .ok (.getfield 7, 3) := by decide +kernel
theorem dX6_becomes_11 : decode cX6_becomes 11 = .ok (.iload_n 1, 1) := by decide +kernel
theorem dX6_becomes_12 : decode cX6_becomes 12 = .ok (.iload_n 2, 1) := by decide +kernel
theorem dX6_becomes_13 : decode cX6_becomes 13 = .ok (.iastore, 1) := by decide +kernel
theorem dX6_becomes_14 : decode cX6_becomes 14 = .ok (.iload_n 3, 1) := by decide +kernel
theorem dX6_becomes_15 : decode cX6_becomes 15 = .ok (.ireturn, 1) := by decide +kernel
theorem dX6_isOne_0 : decode cX6_isOne 0 = .ok (.iload_n 1, 1) := by decide +kernel
theorem dX6_isOne_1 : decode cX6_isOne 1 = .ok (.iconst 0, 1) := by decide +kernel
theorem dX6_isOne_2 : decode cX6_isOne 2 = .ok (.aload_n 0, 1) := by decide +kernel
theorem dX6_isOne_3 : decode cX6_isOne 3 = .ok (.getfield 7, 3) := by decide +kernel
theorem dX6_isOne_6 : decode cX6_isOne 6 = .ok (.bipush 6, 2) := by decide +kernel
theorem dX6_isOne_8 : decode cX6_isOne 8 = .ok (.iaload, 1) := by decide +kernel
theorem dX6_isOne_9 : decode cX6_isOne 9 = .ok (.iconst 1, 1) := by decide +kernel
theorem dX6_isOne_10 : decode cX6_isOne 10 = .ok (.isub, 1) := by decide +kernel
theorem dX6_isOne_11 : decode cX6_isOne 11 = .ok (.invokestatic 45, 3) := by decide +kernel
theorem dX6_isOne_14 : decode cX6_isOne 14 = .ok (.ireturn, 1) := by decide +kernel
theorem dX6_isKind_0 : decode cX6_isKind 0 = .ok (.iload_n 0, 1) := by decide +kernel
theorem dX6_isKind_1 : decode cX6_isKind 1 = .ok (.iconst 0, 1) := by decide +kernel
theorem dX6_isKind_2 : decode cX6_isKind 2 = .ok (.iconst 5, 1) := by decide +kernel
theorem dX6_isKind_3 : decode cX6_isKind 3 = .ok (.invokestatic 45, 3) := by decide +kernel
theorem dX6_isKind_6 : decode cX6_isKind 6 = .ok (.ireturn, 1) := by decide +kernel
theorem dX6_bits_0 : decode cX6_bits 0 = .ok (.iconst 0, 1) := by decide +kernel
theorem dX6_bits_1 : decode cX6_bits 1 = .ok (.istore_n 1, 1) := by decide +kernel
theorem dX6_bits_2 : decode cX6_bits 2 = .ok (.iload_n 0, 1) := by decide +kernel
theorem dX6_bits_3 : decode cX6_bits 3 = .ok (.istore_n 2, 1) := by decide +kernel
theorem dX6_bits_4 : decode cX6_bits 4 = .ok (.iload_n 2, 1) := by decide +kernel
theorem dX6_bits_5 : decode cX6_bits 5 = .ok (.ifCond .eq 15, 3) := by decide +kernel
theorem dX6_bits_8 : decode cX6_bits 8 = .ok (.iinc 1 1, 3) := by decide +kernel
theorem dX6_bits_11 : decode cX6_bits 11 = .ok (.iload_n 2, 1) := by decide +kernel
theorem dX6_bits_12 : decode cX6_bits 12 = .ok (.iload_n 2, 1) := by decide +kernel
theorem dX6_bits_13 : decode cX6_bits 13 = .ok (.iconst 1, 1) := by decide +kernel
theorem dX6_bits_14 : decode cX6_bits 14 = .ok (.isub, 1) := by decide +kernel
theorem dX6_bits_15 : decode cX6_bits 15 = .ok (.iand, 1) := by decide +kernel
theorem dX6_bits_16 : decode cX6_bits 16 = .ok (.istore_n 2, 1) := by decide +kernel
theorem dX6_bits_17 : decode cX6_bits 17 = .ok (.goto (-13), 3) := by decide +kernel
theorem dX6_bits_20 : decode cX6_bits 20 = .ok (.iload_n 1, 1) := by decide +kernel
theorem dX6_bits_21 : decode cX6_bits 21 = .ok (.ireturn, 1) := by decide +kernel
theorem dX6_sea_0 : decode cX6_sea 0 = .ok (.iload_n 1, 1) := by decide +kernel
theorem dX6_sea_1 : decode cX6_sea 1 = .ok (.iconst 0, 1) := by decide +kernel
theorem dX6_sea_2 : decode cX6_sea 2 = .ok (.bipush 27, 2) := by decide +kernel
theorem dX6_sea_4 : decode cX6_sea 4 = .ok (.invokestatic 45, 3) := by decide +kernel
theorem dX6_sea_7 : decode cX6_sea 7 = .ok (.ifCond .eq 25, 3) := by decide +kernel
theorem dX6_sea_10 : decode cX6_sea 10 = .ok (.iload_n 2, 1) := by decide +kernel
theorem dX6_sea_11 : decode cX6_sea 11 = .ok (.iconst 0, 1) := by decide +kernel
theorem dX6_sea_12 : decode cX6_sea 12 = .ok (.bipush 12, 2) := by decide +kernel
theorem dX6_sea_14 : decode cX6_sea 14 = .ok (.invokestatic 45, 3) := by decide +kernel
theorem dX6_sea_17 : decode cX6_sea 17 = .ok (.ifCond .eq 15, 3) := by decide +kernel
theorem dX6_sea_20 : decode cX6_sea 20 = .ok (.aload_n 0, 1) := by decide +kernel
theorem dX6_sea_21 : decode cX6_sea 21 = .ok (.bipush 7, 2) := by decide +kernel
theorem dX6_sea_23 : decode cX6_sea 23 = .ok (.iload_n 1, 1) := by decide +kernel
theorem dX6_sea_24 : decode cX6_sea 24 = .ok (.iadd, 1) := by decide +kernel
theorem dX6_sea_25 : decode cX6_sea 25 = .ok (.iload_n 2, 1) := by decide +kernel
theorem dX6_sea_26 : decode cX6_sea 26 = .ok (.invokevirtual 49, 3) := by decide +kernel
theorem dX6_sea_29 : decode cX6_sea 29 = .ok (.goto 9, 3) := by decide +kernel
theorem dX6_sea_32 : decode cX6_sea 32 = .ok (.aload_n 0, 1) := by decide +kernel
theorem dX6_sea_33 : decode cX6_sea 33 = .ok (.ldc 44, 2) := by decide +kernel
theorem dX6_sea_35 : decode cX6_sea 35 = .ok (.invokevirtual 53, 3) := by decide +kernel
theorem dX6_sea_38 : decode cX6_sea 38 = .ok (.ireturn, 1) := by decide +kernel
theorem dX6_seconds_0 : decode cX6_seconds 0 = .ok (.aload_n 0, 1) := by decide +kernel
theorem dX6_seconds_1 : decode cX6_seconds 1 = .ok (.getfield 7, 3) := by decide +kernel
theorem dX6_seconds_4 : decode cX6_seconds 4 = .ok (.bipush 7, 2) := by decide +kernel
theorem dX6_seconds_6 : decode cX6_seconds 6 = .ok (.iload_n 1, 1) := by decide +kernel
theorem dX6_seconds_7 : decode cX6_seconds 7 = .ok (.bipush 28, 2) := by decide +kernel
theorem dX6_seconds_9 : decode cX6_seconds 9 = .ok (.irem, 1) := by decide +kernel
theorem dX6_seconds_10 : decode cX6_seconds 10 = .ok (.iadd, 1) := by decide +kernel
theorem dX6_seconds_11 : decode cX6_seconds 11 = .ok (.iaload, 1) := by decide +kernel
theorem dX6_seconds_12 : decode cX6_seconds 12 = .ok (.aload_n 0, 1) := by decide +kernel
theorem dX6_seconds_13 : decode cX6_seconds 13 = .ok (.getfield 7, 3) := by decide +kernel
theorem dX6_seconds_16 : decode cX6_seconds 16 = .ok (.iconst 1, 1) := by decide +kernel
theorem dX6_seconds_17 : decode cX6_seconds 17 = .ok (.iaload, 1) := by decide +kernel
theorem dX6_seconds_18 : decode cX6_seconds 18 = .ok (.isub, 1) := by decide +kernel
theorem dX6_seconds_19 : decode cX6_seconds 19 = .ok (.istore_n 2, 1) := by decide +kernel
theorem dX6_seconds_20 : decode cX6_seconds 20 = .ok (.iload_n 2, 1) := by decide +kernel
theorem dX6_seconds_21 : decode cX6_seconds 21 = .ok (.ifCond .ge 7, 3) := by decide +kernel
theorem dX6_seconds_24 : decode cX6_seconds 24 = .ok (.iconst 0, 1) := by decide +kernel
theorem dX6_seconds_25 : decode cX6_seconds 25 = .ok (.goto 6, 3) := by decide +kernel
theorem dX6_seconds_28 : decode cX6_seconds 28 = .ok (.iload_n 2, 1) := by decide +kernel
theorem dX6_seconds_29 : decode cX6_seconds 29 = .ok (.iconst 1, 1) := by decide +kernel
theorem dX6_seconds_30 : decode cX6_seconds 30 = .ok (.iadd, 1) := by decide +kernel
theorem dX6_seconds_31 : decode cX6_seconds 31 = .ok (.ireturn, 1) := by decide +kernel
theorem dX6_day_0 : decode cX6_day 0 = .ok (.iload_n 1, 1) := by decide +kernel
theorem dX6_day_1 : decode cX6_day 1 = .ok (.iconst 0, 1) := by decide +kernel
theorem dX6_day_2 : decode cX6_day 2 = .ok (.sipush 9999, 3) := by decide +kernel
theorem dX6_day_5 : decode cX6_day 5 = .ok (.invokestatic 45, 3) := by decide +kernel
theorem dX6_day_8 : decode cX6_day 8 = .ok (.ifCond .eq 12, 3) := by decide +kernel
theorem dX6_day_11 : decode cX6_day 11 = .ok (.iload_n 2, 1) := by decide +kernel
theorem dX6_day_12 : decode cX6_day 12 = .ok (.iconst 0, 1) := by decide +kernel
theorem dX6_day_13 : decode cX6_day 13 = .ok (.iconst 2, 1) := by decide +kernel
theorem dX6_day_14 : decode cX6_day 14 = .ok (.invokestatic 45, 3) := by decide +kernel
theorem dX6_day_17 : decode cX6_day 17 = .ok (.ifCond .ne 10, 3) := by decide +kernel
theorem dX6_day_20 : decode cX6_day 20 = .ok (.aload_n 0, 1) := by decide +kernel
theorem dX6_day_21 : decode cX6_day 21 = .ok (.ldc 44, 2) := by decide +kernel
theorem dX6_day_23 : decode cX6_day 23 = .ok (.invokevirtual 53, 3) := by decide +kernel
theorem dX6_day_26 : decode cX6_day 26 = .ok (.ireturn, 1) := by decide +kernel
theorem dX6_day_27 : decode cX6_day 27 = .ok (.iload_n 2, 1) := by decide +kernel
theorem dX6_day_28 : decode cX6_day 28 = .ok (.ifCond .ne 18, 3) := by decide +kernel
theorem dX6_day_31 : decode cX6_day 31 = .ok (.aload_n 0, 1) := by decide +kernel
theorem dX6_day_32 : decode cX6_day 32 = .ok (.getfield 7, 3) := by decide +kernel
theorem dX6_day_35 : decode cX6_day 35 = .ok (.bipush 7, 2) := by decide +kernel
theorem dX6_day_37 : decode cX6_day 37 = .ok (.iload_n 1, 1) := by decide +kernel
theorem dX6_day_38 : decode cX6_day 38 = .ok (.bipush 28, 2) := by decide +kernel
theorem dX6_day_40 : decode cX6_day 40 = .ok (.irem, 1) := by decide +kernel
theorem dX6_day_41 : decode cX6_day 41 = .ok (.iadd, 1) := by decide +kernel
theorem dX6_day_42 : decode cX6_day 42 = .ok (.iaload, 1) := by decide +kernel
theorem dX6_day_43 : decode cX6_day 43 = .ok (.goto 29, 3) := by decide +kernel
theorem dX6_day_46 : decode cX6_day 46 = .ok (.iload_n 2, 1) := by decide +kernel
theorem dX6_day_47 : decode cX6_day 47 = .ok (.iconst 1, 1) := by decide +kernel
theorem dX6_day_48 : decode cX6_day 48 = .ok (.if_icmp .ne 19, 3) := by decide +kernel
theorem dX6_day_51 : decode cX6_day 51 = .ok (.aload_n 0, 1) := by decide +kernel
theorem dX6_day_52 : decode cX6_day 52 = .ok (.iload_n 1, 1) := by decide +kernel
theorem dX6_day_53 : decode cX6_day 53 = .ok (.invokevirtual 57, 3) := by decide +kernel
theorem dX6_day_56 : decode cX6_day 56 = .ok (.ifCond .le 7, 3) := by decide +kernel
theorem dX6_day_59 : decode cX6_day 59 = .ok (.iconst 1, 1) := by decide +kernel
theorem dX6_day_60 : decode cX6_day 60 = .ok (.goto 12, 3) := by decide +kernel
theorem dX6_day_63 : decode cX6_day 63 = .ok (.iconst 0, 1) := by decide +kernel
theorem dX6_day_64 : decode cX6_day 64 = .ok (.goto 8, 3) := by decide +kernel
theorem dX6_day_67 : decode cX6_day 67 = .ok (.aload_n 0, 1) := by decide +kernel
theorem dX6_day_68 : decode cX6_day 68 = .ok (.iload_n 1, 1) := by decide +kernel
theorem dX6_day_69 : decode cX6_day 69 = .ok (.invokevirtual 57, 3) := by decide +kernel
theorem dX6_day_72 : decode cX6_day 72 = .ok (.ireturn, 1) := by decide +kernel
theorem dX6_light_0 : decode cX6_light 0 = .ok (.iload_n 1, 1) := by decide +kernel
theorem dX6_light_1 : decode cX6_light 1 = .ok (.tableswitch 105 0 2 #[27, 53, 80], 27) := by decide +kernel
theorem dX6_light_28 : decode cX6_light 28 = .ok (.iload_n 2, 1) := by decide +kernel
theorem dX6_light_29 : decode cX6_light 29 = .ok (.iconst 0, 1) := by decide +kernel
theorem dX6_light_30 : decode cX6_light 30 = .ok (.bipush 12, 2) := by decide +kernel
theorem dX6_light_32 : decode cX6_light 32 = .ok (.invokestatic 45, 3) := by decide +kernel
theorem dX6_light_35 : decode cX6_light 35 = .ok (.ifCond .eq 12, 3) := by decide +kernel
theorem dX6_light_38 : decode cX6_light 38 = .ok (.aload_n 0, 1) := by decide +kernel
theorem dX6_light_39 : decode cX6_light 39 = .ok (.iconst 1, 1) := by decide +kernel
theorem dX6_light_40 : decode cX6_light 40 = .ok (.iload_n 2, 1) := by decide +kernel
theorem dX6_light_41 : decode cX6_light 41 = .ok (.invokevirtual 49, 3) := by decide +kernel
theorem dX6_light_44 : decode cX6_light 44 = .ok (.goto 9, 3) := by decide +kernel
theorem dX6_light_47 : decode cX6_light 47 = .ok (.aload_n 0, 1) := by decide +kernel
theorem dX6_light_48 : decode cX6_light 48 = .ok (.ldc 44, 2) := by decide +kernel
theorem dX6_light_50 : decode cX6_light 50 = .ok (.invokevirtual 53, 3) := by decide +kernel
theorem dX6_light_53 : decode cX6_light 53 = .ok (.ireturn, 1) := by decide +kernel
theorem dX6_light_54 : decode cX6_light 54 = .ok (.iload_n 2, 1) := by decide +kernel
theorem dX6_light_55 : decode cX6_light 55 = .ok (.iconst 0, 1) := by decide +kernel
theorem dX6_light_56 : decode cX6_light 56 = .ok (.sipush 9999, 3) := by decide +kernel
theorem dX6_light_59 : decode cX6_light 59 = .ok (.invokestatic 45, 3) := by decide +kernel
theorem dX6_light_62 : decode cX6_light 62 = .ok (.ifCond .eq 12, 3) := by decide +kernel
theorem dX6_light_65 : decode cX6_light 65 = .ok (.aload_n 0, 1) := by decide +kernel
theorem dX6_light_66 : decode cX6_light 66 = .ok (.iconst 2, 1) := by decide +kernel
theorem dX6_light_67 : decode cX6_light 67 = .ok (.iload_n 2, 1) := by decide +kernel
theorem dX6_light_68 : decode cX6_light 68 = .ok (.invokevirtual 49, 3) := by decide +kernel
theorem dX6_light_71 : decode cX6_light 71 = .ok (.goto 9, 3) := by decide +kernel
theorem dX6_light_74 : decode cX6_light 74 = .ok (.aload_n 0, 1) := by decide +kernel
theorem dX6_light_75 : decode cX6_light 75 = .ok (.ldc 44, 2) := by decide +kernel
theorem dX6_light_77 : decode cX6_light 77 = .ok (.invokevirtual 53, 3) := by decide +kernel
theorem dX6_light_80 : decode cX6_light 80 = .ok (.ireturn, 1) := by decide +kernel
theorem dX6_light_81 : decode cX6_light 81 = .ok (.iload_n 2, 1) := by decide +kernel
theorem dX6_light_82 : decode cX6_light 82 = .ok (.iconst 1, 1) := by decide +kernel
theorem dX6_light_83 : decode cX6_light 83 = .ok (.iconst 3, 1) := by decide +kernel
theorem dX6_light_84 : decode cX6_light 84 = .ok (.invokestatic 45, 3) := by decide +kernel
theorem dX6_light_87 : decode cX6_light 87 = .ok (.ifCond .eq 12, 3) := by decide +kernel
theorem dX6_light_90 : decode cX6_light 90 = .ok (.aload_n 0, 1) := by decide +kernel
theorem dX6_light_91 : decode cX6_light 91 = .ok (.iconst 3, 1) := by decide +kernel
theorem dX6_light_92 : decode cX6_light 92 = .ok (.iload_n 2, 1) := by decide +kernel
theorem dX6_light_93 : decode cX6_light 93 = .ok (.invokevirtual 49, 3) := by decide +kernel
theorem dX6_light_96 : decode cX6_light 96 = .ok (.goto 9, 3) := by decide +kernel
theorem dX6_light_99 : decode cX6_light 99 = .ok (.aload_n 0, 1) := by decide +kernel
theorem dX6_light_100 : decode cX6_light 100 = .ok (.ldc 44, 2) := by decide +kernel
theorem dX6_light_102 : decode cX6_light 102 = .ok (.invokevirtual 53, 3) := by decide +kernel
theorem dX6_light_105 : decode cX6_light 105 = .ok (.ireturn, 1) := by decide +kernel
theorem dX6_light_106 : decode cX6_light 106 = .ok (.iload_n 1, 1) := by decide +kernel
theorem dX6_light_107 : decode cX6_light 107 = .ok (.iconst 3, 1) := by decide +kernel
theorem dX6_light_108 : decode cX6_light 108 = .ok (.if_icmp .ne 21, 3) := by decide +kernel
theorem dX6_light_111 : decode cX6_light 111 = .ok (.iload_n 2, 1) := by decide +kernel
theorem dX6_light_112 : decode cX6_light 112 = .ok (.iconst 0, 1) := by decide +kernel
theorem dX6_light_113 : decode cX6_light 113 = .ok (.iconst 2, 1) := by decide +kernel
theorem dX6_light_114 : decode cX6_light 114 = .ok (.invokestatic 45, 3) := by decide +kernel
theorem dX6_light_117 : decode cX6_light 117 = .ok (.ifCond .eq 12, 3) := by decide +kernel
theorem dX6_light_120 : decode cX6_light 120 = .ok (.aload_n 0, 1) := by decide +kernel
theorem dX6_light_121 : decode cX6_light 121 = .ok (.iconst 4, 1) := by decide +kernel
theorem dX6_light_122 : decode cX6_light 122 = .ok (.iload_n 2, 1) := by decide +kernel
theorem dX6_light_123 : decode cX6_light 123 = .ok (.invokevirtual 49, 3) := by decide +kernel
theorem dX6_light_126 : decode cX6_light 126 = .ok (.goto 9, 3) := by decide +kernel
theorem dX6_light_129 : decode cX6_light 129 = .ok (.aload_n 0, 1) := by decide +kernel
theorem dX6_light_130 : decode cX6_light 130 = .ok (.ldc 44, 2) := by decide +kernel
theorem dX6_light_132 : decode cX6_light 132 = .ok (.invokevirtual 53, 3) := by decide +kernel
theorem dX6_light_135 : decode cX6_light 135 = .ok (.ireturn, 1) := by decide +kernel
theorem dX6_isBrother_0 : decode cX6_isBrother 0 = .ok (.aload_n 0, 1) := by decide +kernel
theorem dX6_isBrother_1 : decode cX6_isBrother 1 = .ok (.iload_n 1, 1) := by decide +kernel
theorem dX6_isBrother_2 : decode cX6_isBrother 2 = .ok (.iconst 0, 1) := by decide +kernel
theorem dX6_isBrother_3 : decode cX6_isBrother 3 = .ok (.invokevirtual 60, 3) := by decide +kernel
theorem dX6_isBrother_6 : decode cX6_isBrother 6 = .ok (.iconst 1, 1) := by decide +kernel
theorem dX6_isBrother_7 : decode cX6_isBrother 7 = .ok (.if_icmp .eq 13, 3) := by decide +kernel
theorem dX6_isBrother_10 : decode cX6_isBrother 10 = .ok (.aload_n 0, 1) := by decide +kernel
theorem dX6_isBrother_11 : decode cX6_isBrother 11 = .ok (.iload_n 1, 1) := by decide +kernel
theorem dX6_isBrother_12 : decode cX6_isBrother 12 = .ok (.iconst 0, 1) := by decide +kernel
theorem dX6_isBrother_13 : decode cX6_isBrother 13 = .ok (.invokevirtual 60, 3) := by decide +kernel
theorem dX6_isBrother_16 : decode cX6_isBrother 16 = .ok (.iconst 4, 1) := by decide +kernel
theorem dX6_isBrother_17 : decode cX6_isBrother 17 = .ok (.if_icmp .ne 7, 3) := by decide +kernel
theorem dX6_isBrother_20 : decode cX6_isBrother 20 = .ok (.iconst 1, 1) := by decide +kernel
theorem dX6_isBrother_21 : decode cX6_isBrother 21 = .ok (.goto 4, 3) := by decide +kernel
theorem dX6_isBrother_24 : decode cX6_isBrother 24 = .ok (.iconst 0, 1) := by decide +kernel
theorem dX6_isBrother_25 : decode cX6_isBrother 25 = .ok (.ireturn, 1) := by decide +kernel
theorem dX6_uses_0 : decode cX6_uses 0 = .ok (.aload_n 0, 1) := by decide +kernel
theorem dX6_uses_1 : decode cX6_uses 1 = .ok (.iload_n 1, 1) := by decide +kernel
theorem dX6_uses_2 : decode cX6_uses 2 = .ok (.iconst 0, 1) := by decide +kernel
theorem dX6_uses_3 : decode cX6_uses 3 = .ok (.invokevirtual 60, 3) := by decide +kernel
theorem dX6_uses_6 : decode cX6_uses 6 = .ok (.tableswitch 44 2 4 #[26, 28, 30], 26) := by decide +kernel
theorem dX6_uses_32 : decode cX6_uses 32 = .ok (.iconst 1, 1) := by decide +kernel
theorem dX6_uses_33 : decode cX6_uses 33 = .ok (.ireturn, 1) := by decide +kernel
theorem dX6_uses_34 : decode cX6_uses 34 = .ok (.iconst 3, 1) := by decide +kernel
theorem dX6_uses_35 : decode cX6_uses 35 = .ok (.ireturn, 1) := by decide +kernel
theorem dX6_uses_36 : decode cX6_uses 36 = .ok (.aload_n 0, 1) := by decide +kernel
theorem dX6_uses_37 : decode cX6_uses 37 = .ok (.iload_n 1, 1) := by decide +kernel
theorem dX6_uses_38 : decode cX6_uses 38 = .ok (.invokevirtual 63, 3) := by decide +kernel
theorem dX6_uses_41 : decode cX6_uses 41 = .ok (.ifCond .eq 7, 3) := by decide +kernel
theorem dX6_uses_44 : decode cX6_uses 44 = .ok (.iconst 1, 1) := by decide +kernel
theorem dX6_uses_45 : decode cX6_uses 45 = .ok (.goto 4, 3) := by decide +kernel
theorem dX6_uses_48 : decode cX6_uses 48 = .ok (.iconst 2, 1) := by decide +kernel
theorem dX6_uses_49 : decode cX6_uses 49 = .ok (.ireturn, 1) := by decide +kernel
theorem dX6_uses_50 : decode cX6_uses 50 = .ok (.iconst 2, 1) := by decide +kernel
theorem dX6_uses_51 : decode cX6_uses 51 = .ok (.ireturn, 1) := by decide +kernel
theorem dX6_besideBrother_0 : decode cX6_besideBrother 0 = .ok (.iconst 0, 1) := by decide +kernel
theorem dX6_besideBrother_1 : decode cX6_besideBrother 1 = .ok (.istore_n 2, 1) := by decide +kernel
theorem dX6_besideBrother_2 : decode cX6_besideBrother 2 = .ok (.iconst 0, 1) := by decide +kernel
theorem dX6_besideBrother_3 : decode cX6_besideBrother 3 = .ok (.istore_n 3, 1) := by decide +kernel
theorem dX6_besideBrother_4 : decode cX6_besideBrother 4 = .ok (.iload_n 3, 1) := by decide +kernel
theorem dX6_besideBrother_5 : decode cX6_besideBrother 5 = .ok (.aload_n 0, 1) := by decide +kernel
theorem dX6_besideBrother_6 : decode cX6_besideBrother 6 = .ok (.getfield 7, 3) := by decide +kernel
theorem dX6_besideBrother_9 : decode cX6_besideBrother 9 = .ok (.bipush 6, 2) := by decide +kernel
theorem dX6_besideBrother_11 : decode cX6_besideBrother 11 = .ok (.iaload, 1) := by decide +kernel
theorem dX6_besideBrother_12 : decode cX6_besideBrother 12 = .ok (.if_icmp .ge 42, 3) := by decide +kernel
theorem dX6_besideBrother_15 : decode cX6_besideBrother 15 = .ok (.iload_n 2, 1) := by decide +kernel
theorem dX6_besideBrother_16 : decode cX6_besideBrother 16 = .ok (.ifCond .ne 26, 3) := by decide +kernel
theorem dX6_besideBrother_19 : decode cX6_besideBrother 19 = .ok (.iload_n 3, 1) := by decide +kernel
theorem dX6_besideBrother_20 : decode cX6_besideBrother 20 = .ok (.iload_n 1, 1) := by decide +kernel
theorem dX6_besideBrother_21 : decode cX6_besideBrother 21 = .ok (.if_icmp .eq 25, 3) := by decide +kernel
theorem dX6_besideBrother_24 : decode cX6_besideBrother 24 = .ok (.aload_n 0, 1) := by decide +kernel
theorem dX6_besideBrother_25 : decode cX6_besideBrother 25 = .ok (.iload_n 3, 1) := by decide +kernel
theorem dX6_besideBrother_26 : decode cX6_besideBrother 26 = .ok (.iconst 1, 1) := by decide +kernel
theorem dX6_besideBrother_27 : decode cX6_besideBrother 27 = .ok (.invokevirtual 60, 3) := by decide +kernel
theorem dX6_besideBrother_30 : decode cX6_besideBrother 30 = .ok (.iconst 1, 1) := by decide +kernel
theorem dX6_besideBrother_31 : decode cX6_besideBrother 31 = .ok (.if_icmp .ne 15, 3) := by decide +kernel
theorem dX6_besideBrother_34 : decode cX6_besideBrother 34 = .ok (.aload_n 0, 1) := by decide +kernel
theorem dX6_besideBrother_35 : decode cX6_besideBrother 35 = .ok (.iload_n 3, 1) := by decide +kernel
theorem dX6_besideBrother_36 : decode cX6_besideBrother 36 = .ok (.invokevirtual 67, 3) := by decide +kernel
theorem dX6_besideBrother_39 : decode cX6_besideBrother 39 = .ok (.ifCond .eq 7, 3) := by decide +kernel
theorem dX6_besideBrother_42 : decode cX6_besideBrother 42 = .ok (.iconst 1, 1) := by decide +kernel
theorem dX6_besideBrother_43 : decode cX6_besideBrother 43 = .ok (.goto 4, 3) := by decide +kernel
theorem dX6_besideBrother_46 : decode cX6_besideBrother 46 = .ok (.iconst 0, 1) := by decide +kernel
theorem dX6_besideBrother_47 : decode cX6_besideBrother 47 = .ok (.istore_n 2, 1) := by decide +kernel
theorem dX6_besideBrother_48 : decode cX6_besideBrother 48 = .ok (.iinc 3 1, 3) := by decide +kernel
theorem dX6_besideBrother_51 : decode cX6_besideBrother 51 = .ok (.goto (-47), 3) := by decide +kernel
theorem dX6_besideBrother_54 : decode cX6_besideBrother 54 = .ok (.iload_n 2, 1) := by decide +kernel
theorem dX6_besideBrother_55 : decode cX6_besideBrother 55 = .ok (.ireturn, 1) := by decide +kernel
theorem dX6_brings_0 : decode cX6_brings 0 = .ok (.aload_n 0, 1) := by decide +kernel
theorem dX6_brings_1 : decode cX6_brings 1 = .ok (.iload_n 1, 1) := by decide +kernel
theorem dX6_brings_2 : decode cX6_brings 2 = .ok (.iconst 0, 1) := by decide +kernel
theorem dX6_brings_3 : decode cX6_brings 3 = .ok (.invokevirtual 60, 3) := by decide +kernel
theorem dX6_brings_6 : decode cX6_brings 6 = .ok (.tableswitch 49 2 5 #[30, 41, 49, 34], 30) := by decide +kernel
theorem dX6_brings_36 : decode cX6_brings 36 = .ok (.iconst 5, 1) := by decide +kernel
theorem dX6_brings_37 : decode cX6_brings 37 = .ok (.iload_n 2, 1) := by decide +kernel
theorem dX6_brings_38 : decode cX6_brings 38 = .ok (.imul, 1) := by decide +kernel
theorem dX6_brings_39 : decode cX6_brings 39 = .ok (.ireturn, 1) := by decide +kernel
theorem dX6_brings_40 : decode cX6_brings 40 = .ok (.iconst 5, 1) := by decide +kernel
theorem dX6_brings_41 : decode cX6_brings 41 = .ok (.iload_n 2, 1) := by decide +kernel
theorem dX6_brings_42 : decode cX6_brings 42 = .ok (.imul, 1) := by decide +kernel
theorem dX6_brings_43 : decode cX6_brings 43 = .ok (.bipush 20, 2) := by decide +kernel
theorem dX6_brings_45 : decode cX6_brings 45 = .ok (.iadd, 1) := by decide +kernel
theorem dX6_brings_46 : decode cX6_brings 46 = .ok (.ireturn, 1) := by decide +kernel
theorem dX6_brings_47 : decode cX6_brings 47 = .ok (.bipush 10, 2) := by decide +kernel
theorem dX6_brings_49 : decode cX6_brings 49 = .ok (.iload_n 2, 1) := by decide +kernel
theorem dX6_brings_50 : decode cX6_brings 50 = .ok (.imul, 1) := by decide +kernel
theorem dX6_brings_51 : decode cX6_brings 51 = .ok (.bipush 7, 2) := by decide +kernel
theorem dX6_brings_53 : decode cX6_brings 53 = .ok (.iadd, 1) := by decide +kernel
theorem dX6_brings_54 : decode cX6_brings 54 = .ok (.ireturn, 1) := by decide +kernel
theorem dX6_brings_55 : decode cX6_brings 55 = .ok (.bipush 10, 2) := by decide +kernel
theorem dX6_brings_57 : decode cX6_brings 57 = .ok (.iload_n 2, 1) := by decide +kernel
theorem dX6_brings_58 : decode cX6_brings 58 = .ok (.imul, 1) := by decide +kernel
theorem dX6_brings_59 : decode cX6_brings 59 = .ok (.ireturn, 1) := by decide +kernel
theorem dX6_tells_0 : decode cX6_tells 0 = .ok (.aload_n 0, 1) := by decide +kernel
theorem dX6_tells_1 : decode cX6_tells 1 = .ok (.iload_n 1, 1) := by decide +kernel
theorem dX6_tells_2 : decode cX6_tells 2 = .ok (.iconst 0, 1) := by decide +kernel
theorem dX6_tells_3 : decode cX6_tells 3 = .ok (.invokevirtual 60, 3) := by decide +kernel
theorem dX6_tells_6 : decode cX6_tells 6 = .ok (.tableswitch 56 1 5 #[34, 44, 52, 38, 46], 34) := by decide +kernel
theorem dX6_tells_40 : decode cX6_tells 40 = .ok (.iconst 2, 1) := by decide +kernel
theorem dX6_tells_41 : decode cX6_tells 41 = .ok (.iload_n 2, 1) := by decide +kernel
theorem dX6_tells_42 : decode cX6_tells 42 = .ok (.imul, 1) := by decide +kernel
theorem dX6_tells_43 : decode cX6_tells 43 = .ok (.ireturn, 1) := by decide +kernel
theorem dX6_tells_44 : decode cX6_tells 44 = .ok (.iconst 2, 1) := by decide +kernel
theorem dX6_tells_45 : decode cX6_tells 45 = .ok (.iload_n 2, 1) := by decide +kernel
theorem dX6_tells_46 : decode cX6_tells 46 = .ok (.imul, 1) := by decide +kernel
theorem dX6_tells_47 : decode cX6_tells 47 = .ok (.iconst 1, 1) := by decide +kernel
theorem dX6_tells_48 : decode cX6_tells 48 = .ok (.iadd, 1) := by decide +kernel
theorem dX6_tells_49 : decode cX6_tells 49 = .ok (.ireturn, 1) := by decide +kernel
theorem dX6_tells_50 : decode cX6_tells 50 = .ok (.iconst 1, 1) := by decide +kernel
theorem dX6_tells_51 : decode cX6_tells 51 = .ok (.ireturn, 1) := by decide +kernel
theorem dX6_tells_52 : decode cX6_tells 52 = .ok (.iconst 1, 1) := by decide +kernel
theorem dX6_tells_53 : decode cX6_tells 53 = .ok (.iload_n 2, 1) := by decide +kernel
theorem dX6_tells_54 : decode cX6_tells 54 = .ok (.iconst 3, 1) := by decide +kernel
theorem dX6_tells_55 : decode cX6_tells 55 = .ok (.idiv, 1) := by decide +kernel
theorem dX6_tells_56 : decode cX6_tells 56 = .ok (.iadd, 1) := by decide +kernel
theorem dX6_tells_57 : decode cX6_tells 57 = .ok (.ireturn, 1) := by decide +kernel
theorem dX6_tells_58 : decode cX6_tells 58 = .ok (.iload_n 2, 1) := by decide +kernel
theorem dX6_tells_59 : decode cX6_tells 59 = .ok (.iconst 1, 1) := by decide +kernel
theorem dX6_tells_60 : decode cX6_tells 60 = .ok (.isub, 1) := by decide +kernel
theorem dX6_tells_61 : decode cX6_tells 61 = .ok (.ireturn, 1) := by decide +kernel
theorem dX6_tells_62 : decode cX6_tells 62 = .ok (.iload_n 2, 1) := by decide +kernel
theorem dX6_tells_63 : decode cX6_tells 63 = .ok (.ireturn, 1) := by decide +kernel
theorem dX6_adds_0 : decode cX6_adds 0 = .ok (.aload_n 0, 1) := by decide +kernel
theorem dX6_adds_1 : decode cX6_adds 1 = .ok (.getfield 7, 3) := by decide +kernel
theorem dX6_adds_4 : decode cX6_adds 4 = .ok (.bipush 6, 2) := by decide +kernel
theorem dX6_adds_6 : decode cX6_adds 6 = .ok (.iaload, 1) := by decide +kernel
theorem dX6_adds_7 : decode cX6_adds 7 = .ok (.istore 4, 2) := by decide +kernel
theorem dX6_adds_9 : decode cX6_adds 9 = .ok (.aload_n 0, 1) := by decide +kernel
theorem dX6_adds_10 : decode cX6_adds 10 = .ok (.iload 4, 2) := by decide +kernel
theorem dX6_adds_12 : decode cX6_adds 12 = .ok (.iconst 0, 1) := by decide +kernel
theorem dX6_adds_13 : decode cX6_adds 13 = .ok (.iload_n 1, 1) := by decide +kernel
theorem dX6_adds_14 : decode cX6_adds 14 = .ok (.invokevirtual 70, 3) := by decide +kernel
theorem dX6_adds_17 : decode cX6_adds 17 = .ok (.aload_n 0, 1) := by decide +kernel
theorem dX6_adds_18 : decode cX6_adds 18 = .ok (.iload 4, 2) := by decide +kernel
theorem dX6_adds_20 : decode cX6_adds 20 = .ok (.iconst 1, 1) := by decide +kernel
theorem dX6_adds_21 : decode cX6_adds 21 = .ok (.iload_n 2, 1) := by decide +kernel
theorem dX6_adds_22 : decode cX6_adds 22 = .ok (.invokevirtual 70, 3) := by decide +kernel
theorem dX6_adds_25 : decode cX6_adds 25 = .ok (.aload_n 0, 1) := by decide +kernel
theorem dX6_adds_26 : decode cX6_adds 26 = .ok (.iload 4, 2) := by decide +kernel
theorem dX6_adds_28 : decode cX6_adds 28 = .ok (.iconst 2, 1) := by decide +kernel
theorem dX6_adds_29 : decode cX6_adds 29 = .ok (.aload_n 0, 1) := by decide +kernel
theorem dX6_adds_30 : decode cX6_adds 30 = .ok (.getfield 7, 3) := by decide +kernel
theorem dX6_adds_33 : decode cX6_adds 33 = .ok (.iconst 0, 1) := by decide +kernel
theorem dX6_adds_34 : decode cX6_adds 34 = .ok (.iaload, 1) := by decide +kernel
theorem dX6_adds_35 : decode cX6_adds 35 = .ok (.invokevirtual 70, 3) := by decide +kernel
theorem dX6_adds_38 : decode cX6_adds 38 = .ok (.aload_n 0, 1) := by decide +kernel
theorem dX6_adds_39 : decode cX6_adds 39 = .ok (.iload 4, 2) := by decide +kernel
theorem dX6_adds_41 : decode cX6_adds 41 = .ok (.iconst 3, 1) := by decide +kernel
theorem dX6_adds_42 : decode cX6_adds 42 = .ok (.iload_n 3, 1) := by decide +kernel
theorem dX6_adds_43 : decode cX6_adds 43 = .ok (.invokevirtual 70, 3) := by decide +kernel
theorem dX6_adds_46 : decode cX6_adds 46 = .ok (.aload_n 0, 1) := by decide +kernel
theorem dX6_adds_47 : decode cX6_adds 47 = .ok (.iload 4, 2) := by decide +kernel
theorem dX6_adds_49 : decode cX6_adds 49 = .ok (.iconst 4, 1) := by decide +kernel
theorem dX6_adds_50 : decode cX6_adds 50 = .ok (.iconst 0, 1) := by decide +kernel
theorem dX6_adds_51 : decode cX6_adds 51 = .ok (.invokevirtual 70, 3) := by decide +kernel
theorem dX6_adds_54 : decode cX6_adds 54 = .ok (.aload_n 0, 1) := by decide +kernel
theorem dX6_adds_55 : decode cX6_adds 55 = .ok (.getfield 7, 3) := by decide +kernel
theorem dX6_adds_58 : decode cX6_adds 58 = .ok (.bipush 6, 2) := by decide +kernel
theorem dX6_adds_60 : decode cX6_adds 60 = .ok (.dup2, 1) := by decide +kernel
theorem dX6_adds_61 : decode cX6_adds 61 = .ok (.iaload, 1) := by decide +kernel
theorem dX6_adds_62 : decode cX6_adds 62 = .ok (.iconst 1, 1) := by decide +kernel
theorem dX6_adds_63 : decode cX6_adds 63 = .ok (.iadd, 1) := by decide +kernel
theorem dX6_adds_64 : decode cX6_adds 64 = .ok (.iastore, 1) := by decide +kernel
theorem dX6_adds_65 : decode cX6_adds 65 = .ok (.return_, 1) := by decide +kernel
theorem dX6_keeper_0 : decode cX6_keeper 0 = .ok (.iload_n 1, 1) := by decide +kernel
theorem dX6_keeper_1 : decode cX6_keeper 1 = .ok (.invokestatic 74, 3) := by decide +kernel
theorem dX6_keeper_4 : decode cX6_keeper 4 = .ok (.ifCond .ne 10, 3) := by decide +kernel
theorem dX6_keeper_7 : decode cX6_keeper 7 = .ok (.aload_n 0, 1) := by decide +kernel
theorem dX6_keeper_8 : decode cX6_keeper 8 = .ok (.ldc 44, 2) := by decide +kernel
theorem dX6_keeper_10 : decode cX6_keeper 10 = .ok (.invokevirtual 53, 3) := by decide +kernel
theorem dX6_keeper_13 : decode cX6_keeper 13 = .ok (.ireturn, 1) := by decide +kernel
theorem dX6_keeper_14 : decode cX6_keeper 14 = .ok (.aload_n 0, 1) := by decide +kernel
theorem dX6_keeper_15 : decode cX6_keeper 15 = .ok (.getfield 7, 3) := by decide +kernel
theorem dX6_keeper_18 : decode cX6_keeper 18 = .ok (.bipush 6, 2) := by decide +kernel
theorem dX6_keeper_20 : decode cX6_keeper 20 = .ok (.iaload, 1) := by decide +kernel
theorem dX6_keeper_21 : decode cX6_keeper 21 = .ok (.bipush 8, 2) := by decide +kernel
theorem dX6_keeper_23 : decode cX6_keeper 23 = .ok (.if_icmp .ne 10, 3) := by decide +kernel
theorem dX6_keeper_26 : decode cX6_keeper 26 = .ok (.aload_n 0, 1) := by decide +kernel
theorem dX6_keeper_27 : decode cX6_keeper 27 = .ok (.ldc 77, 2) := by decide +kernel
theorem dX6_keeper_29 : decode cX6_keeper 29 = .ok (.invokevirtual 53, 3) := by decide +kernel
theorem dX6_keeper_32 : decode cX6_keeper 32 = .ok (.ireturn, 1) := by decide +kernel
theorem dX6_keeper_33 : decode cX6_keeper 33 = .ok (.aload_n 0, 1) := by decide +kernel
theorem dX6_keeper_34 : decode cX6_keeper 34 = .ok (.iload_n 1, 1) := by decide +kernel
theorem dX6_keeper_35 : decode cX6_keeper 35 = .ok (.iconst 0, 1) := by decide +kernel
theorem dX6_keeper_36 : decode cX6_keeper 36 = .ok (.iconst 0, 1) := by decide +kernel
theorem dX6_keeper_37 : decode cX6_keeper 37 = .ok (.invokevirtual 78, 3) := by decide +kernel
theorem dX6_keeper_40 : decode cX6_keeper 40 = .ok (.aload_n 0, 1) := by decide +kernel
theorem dX6_keeper_41 : decode cX6_keeper 41 = .ok (.getfield 7, 3) := by decide +kernel
theorem dX6_keeper_44 : decode cX6_keeper 44 = .ok (.bipush 6, 2) := by decide +kernel
theorem dX6_keeper_46 : decode cX6_keeper 46 = .ok (.iaload, 1) := by decide +kernel
theorem dX6_keeper_47 : decode cX6_keeper 47 = .ok (.iconst 1, 1) := by decide +kernel
theorem dX6_keeper_48 : decode cX6_keeper 48 = .ok (.isub, 1) := by decide +kernel
theorem dX6_keeper_49 : decode cX6_keeper 49 = .ok (.ireturn, 1) := by decide +kernel
theorem dX6_of_0 : decode cX6_of 0 = .ok (.aload_n 0, 1) := by decide +kernel
theorem dX6_of_1 : decode cX6_of 1 = .ok (.iload_n 1, 1) := by decide +kernel
theorem dX6_of_2 : decode cX6_of 2 = .ok (.invokevirtual 81, 3) := by decide +kernel
theorem dX6_of_5 : decode cX6_of 5 = .ok (.ifCond .eq 12, 3) := by decide +kernel
theorem dX6_of_8 : decode cX6_of 8 = .ok (.iload_n 2, 1) := by decide +kernel
theorem dX6_of_9 : decode cX6_of 9 = .ok (.iconst 0, 1) := by decide +kernel
theorem dX6_of_10 : decode cX6_of 10 = .ok (.iconst 5, 1) := by decide +kernel
theorem dX6_of_11 : decode cX6_of 11 = .ok (.invokestatic 45, 3) := by decide +kernel
theorem dX6_of_14 : decode cX6_of 14 = .ok (.ifCond .ne 10, 3) := by decide +kernel
theorem dX6_of_17 : decode cX6_of 17 = .ok (.aload_n 0, 1) := by decide +kernel
theorem dX6_of_18 : decode cX6_of 18 = .ok (.ldc 44, 2) := by decide +kernel
theorem dX6_of_20 : decode cX6_of 20 = .ok (.invokevirtual 53, 3) := by decide +kernel
theorem dX6_of_23 : decode cX6_of 23 = .ok (.ireturn, 1) := by decide +kernel
theorem dX6_of_24 : decode cX6_of 24 = .ok (.iload_n 2, 1) := by decide +kernel
theorem dX6_of_25 : decode cX6_of 25 = .ok (.iconst 5, 1) := by decide +kernel
theorem dX6_of_26 : decode cX6_of 26 = .ok (.if_icmp .ne 11, 3) := by decide +kernel
theorem dX6_of_29 : decode cX6_of 29 = .ok (.aload_n 0, 1) := by decide +kernel
theorem dX6_of_30 : decode cX6_of 30 = .ok (.iload_n 1, 1) := by decide +kernel
theorem dX6_of_31 : decode cX6_of 31 = .ok (.invokevirtual 84, 3) := by decide +kernel
theorem dX6_of_34 : decode cX6_of 34 = .ok (.goto 9, 3) := by decide +kernel
theorem dX6_of_37 : decode cX6_of 37 = .ok (.aload_n 0, 1) := by decide +kernel
theorem dX6_of_38 : decode cX6_of 38 = .ok (.iload_n 1, 1) := by decide +kernel
theorem dX6_of_39 : decode cX6_of 39 = .ok (.iload_n 2, 1) := by decide +kernel
theorem dX6_of_40 : decode cX6_of 40 = .ok (.invokevirtual 60, 3) := by decide +kernel
theorem dX6_of_43 : decode cX6_of 43 = .ok (.ireturn, 1) := by decide +kernel
theorem dX6_can_0 : decode cX6_can 0 = .ok (.aload_n 0, 1) := by decide +kernel
theorem dX6_can_1 : decode cX6_can 1 = .ok (.iload_n 1, 1) := by decide +kernel
theorem dX6_can_2 : decode cX6_can 2 = .ok (.invokevirtual 81, 3) := by decide +kernel
theorem dX6_can_5 : decode cX6_can 5 = .ok (.ifCond .eq 22, 3) := by decide +kernel
theorem dX6_can_8 : decode cX6_can 8 = .ok (.iload_n 2, 1) := by decide +kernel
theorem dX6_can_9 : decode cX6_can 9 = .ok (.iconst 0, 1) := by decide +kernel
theorem dX6_can_10 : decode cX6_can 10 = .ok (.iconst 1, 1) := by decide +kernel
theorem dX6_can_11 : decode cX6_can 11 = .ok (.invokestatic 45, 3) := by decide +kernel
theorem dX6_can_14 : decode cX6_can 14 = .ok (.ifCond .eq 13, 3) := by decide +kernel
theorem dX6_can_17 : decode cX6_can 17 = .ok (.iload_n 3, 1) := by decide +kernel
theorem dX6_can_18 : decode cX6_can 18 = .ok (.iconst 1, 1) := by decide +kernel
theorem dX6_can_19 : decode cX6_can 19 = .ok (.bipush 13, 2) := by decide +kernel
theorem dX6_can_21 : decode cX6_can 21 = .ok (.invokestatic 45, 3) := by decide +kernel
theorem dX6_can_24 : decode cX6_can 24 = .ok (.ifCond .ne 10, 3) := by decide +kernel
theorem dX6_can_27 : decode cX6_can 27 = .ok (.aload_n 0, 1) := by decide +kernel
theorem dX6_can_28 : decode cX6_can 28 = .ok (.ldc 44, 2) := by decide +kernel
theorem dX6_can_30 : decode cX6_can 30 = .ok (.invokevirtual 53, 3) := by decide +kernel
theorem dX6_can_33 : decode cX6_can 33 = .ok (.ireturn, 1) := by decide +kernel
theorem dX6_can_34 : decode cX6_can 34 = .ok (.iload_n 2, 1) := by decide +kernel
theorem dX6_can_35 : decode cX6_can 35 = .ok (.ifCond .ne 12, 3) := by decide +kernel
theorem dX6_can_38 : decode cX6_can 38 = .ok (.aload_n 0, 1) := by decide +kernel
theorem dX6_can_39 : decode cX6_can 39 = .ok (.iload_n 1, 1) := by decide +kernel
theorem dX6_can_40 : decode cX6_can 40 = .ok (.iload_n 3, 1) := by decide +kernel
theorem dX6_can_41 : decode cX6_can 41 = .ok (.invokevirtual 87, 3) := by decide +kernel
theorem dX6_can_44 : decode cX6_can 44 = .ok (.goto 9, 3) := by decide +kernel
theorem dX6_can_47 : decode cX6_can 47 = .ok (.aload_n 0, 1) := by decide +kernel
theorem dX6_can_48 : decode cX6_can 48 = .ok (.iload_n 1, 1) := by decide +kernel
theorem dX6_can_49 : decode cX6_can 49 = .ok (.iload_n 3, 1) := by decide +kernel
theorem dX6_can_50 : decode cX6_can 50 = .ok (.invokevirtual 90, 3) := by decide +kernel
theorem dX6_can_53 : decode cX6_can 53 = .ok (.ireturn, 1) := by decide +kernel
theorem dX6_turnsOn_0 : decode cX6_turnsOn 0 = .ok (.aload_n 0, 1) := by decide +kernel
theorem dX6_turnsOn_1 : decode cX6_turnsOn 1 = .ok (.iload_n 1, 1) := by decide +kernel
theorem dX6_turnsOn_2 : decode cX6_turnsOn 2 = .ok (.iconst 1, 1) := by decide +kernel
theorem dX6_turnsOn_3 : decode cX6_turnsOn 3 = .ok (.invokevirtual 60, 3) := by decide +kernel
theorem dX6_turnsOn_6 : decode cX6_turnsOn 6 = .ok (.istore_n 3, 1) := by decide +kernel
theorem dX6_turnsOn_7 : decode cX6_turnsOn 7 = .ok (.aload_n 0, 1) := by decide +kernel
theorem dX6_turnsOn_8 : decode cX6_turnsOn 8 = .ok (.iload_n 1, 1) := by decide +kernel
theorem dX6_turnsOn_9 : decode cX6_turnsOn 9 = .ok (.iconst 1, 1) := by decide +kernel
theorem dX6_turnsOn_10 : decode cX6_turnsOn 10 = .ok (.iload_n 2, 1) := by decide +kernel
theorem dX6_turnsOn_11 : decode cX6_turnsOn 11 = .ok (.invokevirtual 70, 3) := by decide +kernel
theorem dX6_turnsOn_14 : decode cX6_turnsOn 14 = .ok (.aload_n 0, 1) := by decide +kernel
theorem dX6_turnsOn_15 : decode cX6_turnsOn 15 = .ok (.iload_n 1, 1) := by decide +kernel
theorem dX6_turnsOn_16 : decode cX6_turnsOn 16 = .ok (.iconst 2, 1) := by decide +kernel
theorem dX6_turnsOn_17 : decode cX6_turnsOn 17 = .ok (.aload_n 0, 1) := by decide +kernel
theorem dX6_turnsOn_18 : decode cX6_turnsOn 18 = .ok (.getfield 7, 3) := by decide +kernel
theorem dX6_turnsOn_21 : decode cX6_turnsOn 21 = .ok (.iconst 0, 1) := by decide +kernel
theorem dX6_turnsOn_22 : decode cX6_turnsOn 22 = .ok (.iaload, 1) := by decide +kernel
theorem dX6_turnsOn_23 : decode cX6_turnsOn 23 = .ok (.invokevirtual 70, 3) := by decide +kernel
theorem dX6_turnsOn_26 : decode cX6_turnsOn 26 = .ok (.iload_n 3, 1) := by decide +kernel
theorem dX6_turnsOn_27 : decode cX6_turnsOn 27 = .ok (.ireturn, 1) := by decide +kernel
theorem dX6_set_0 : decode cX6_set 0 = .ok (.aload_n 0, 1) := by decide +kernel
theorem dX6_set_1 : decode cX6_set 1 = .ok (.iload_n 1, 1) := by decide +kernel
theorem dX6_set_2 : decode cX6_set 2 = .ok (.invokevirtual 81, 3) := by decide +kernel
theorem dX6_set_5 : decode cX6_set 5 = .ok (.ifCond .ne 10, 3) := by decide +kernel
theorem dX6_set_8 : decode cX6_set 8 = .ok (.aload_n 0, 1) := by decide +kernel
theorem dX6_set_9 : decode cX6_set 9 = .ok (.ldc 44, 2) := by decide +kernel
theorem dX6_set_11 : decode cX6_set 11 = .ok (.invokevirtual 53, 3) := by decide +kernel
theorem dX6_set_14 : decode cX6_set 14 = .ok (.ireturn, 1) := by decide +kernel
theorem dX6_set_15 : decode cX6_set 15 = .ok (.iload_n 2, 1) := by decide +kernel
theorem dX6_set_16 : decode cX6_set 16 = .ok (.lookupswitch 87 #[(1, 28), (3, 53)], 28) := by decide +kernel
theorem dX6_set_44 : decode cX6_set 44 = .ok (.iload_n 3, 1) := by decide +kernel
theorem dX6_set_45 : decode cX6_set 45 = .ok (.iconst 0, 1) := by decide +kernel
theorem dX6_set_46 : decode cX6_set 46 = .ok (.iconst 1, 1) := by decide +kernel
theorem dX6_set_47 : decode cX6_set 47 = .ok (.invokestatic 45, 3) := by decide +kernel
theorem dX6_set_50 : decode cX6_set 50 = .ok (.ifCond .eq 12, 3) := by decide +kernel
theorem dX6_set_53 : decode cX6_set 53 = .ok (.aload_n 0, 1) := by decide +kernel
theorem dX6_set_54 : decode cX6_set 54 = .ok (.iload_n 1, 1) := by decide +kernel
theorem dX6_set_55 : decode cX6_set 55 = .ok (.iload_n 3, 1) := by decide +kernel
theorem dX6_set_56 : decode cX6_set 56 = .ok (.invokevirtual 93, 3) := by decide +kernel
theorem dX6_set_59 : decode cX6_set 59 = .ok (.goto 9, 3) := by decide +kernel
theorem dX6_set_62 : decode cX6_set 62 = .ok (.aload_n 0, 1) := by decide +kernel
theorem dX6_set_63 : decode cX6_set 63 = .ok (.ldc 44, 2) := by decide +kernel
theorem dX6_set_65 : decode cX6_set 65 = .ok (.invokevirtual 53, 3) := by decide +kernel
theorem dX6_set_68 : decode cX6_set 68 = .ok (.ireturn, 1) := by decide +kernel
theorem dX6_set_69 : decode cX6_set 69 = .ok (.iload_n 3, 1) := by decide +kernel
theorem dX6_set_70 : decode cX6_set 70 = .ok (.iconst 0, 1) := by decide +kernel
theorem dX6_set_71 : decode cX6_set 71 = .ok (.sipush 511, 3) := by decide +kernel
theorem dX6_set_74 : decode cX6_set 74 = .ok (.invokestatic 45, 3) := by decide +kernel
theorem dX6_set_77 : decode cX6_set 77 = .ok (.ifCond .eq 19, 3) := by decide +kernel
theorem dX6_set_80 : decode cX6_set 80 = .ok (.aload_n 0, 1) := by decide +kernel
theorem dX6_set_81 : decode cX6_set 81 = .ok (.bipush 35, 2) := by decide +kernel
theorem dX6_set_83 : decode cX6_set 83 = .ok (.iconst 5, 1) := by decide +kernel
theorem dX6_set_84 : decode cX6_set 84 = .ok (.iload_n 1, 1) := by decide +kernel
theorem dX6_set_85 : decode cX6_set 85 = .ok (.imul, 1) := by decide +kernel
theorem dX6_set_86 : decode cX6_set 86 = .ok (.iadd, 1) := by decide +kernel
theorem dX6_set_87 : decode cX6_set 87 = .ok (.iconst 3, 1) := by decide +kernel
theorem dX6_set_88 : decode cX6_set 88 = .ok (.iadd, 1) := by decide +kernel
theorem dX6_set_89 : decode cX6_set 89 = .ok (.iload_n 3, 1) := by decide +kernel
theorem dX6_set_90 : decode cX6_set 90 = .ok (.invokevirtual 49, 3) := by decide +kernel
theorem dX6_set_93 : decode cX6_set 93 = .ok (.goto 9, 3) := by decide +kernel
theorem dX6_set_96 : decode cX6_set 96 = .ok (.aload_n 0, 1) := by decide +kernel
theorem dX6_set_97 : decode cX6_set 97 = .ok (.ldc 44, 2) := by decide +kernel
theorem dX6_set_99 : decode cX6_set 99 = .ok (.invokevirtual 53, 3) := by decide +kernel
theorem dX6_set_102 : decode cX6_set 102 = .ok (.ireturn, 1) := by decide +kernel
theorem dX6_set_103 : decode cX6_set 103 = .ok (.iload_n 2, 1) := by decide +kernel
theorem dX6_set_104 : decode cX6_set 104 = .ok (.iconst 4, 1) := by decide +kernel
theorem dX6_set_105 : decode cX6_set 105 = .ok (.if_icmp .ne 30, 3) := by decide +kernel
theorem dX6_set_108 : decode cX6_set 108 = .ok (.iload_n 3, 1) := by decide +kernel
theorem dX6_set_109 : decode cX6_set 109 = .ok (.iconst 0, 1) := by decide +kernel
theorem dX6_set_110 : decode cX6_set 110 = .ok (.sipush 9999, 3) := by decide +kernel
theorem dX6_set_113 : decode cX6_set 113 = .ok (.invokestatic 45, 3) := by decide +kernel
theorem dX6_set_116 : decode cX6_set 116 = .ok (.ifCond .eq 19, 3) := by decide +kernel
theorem dX6_set_119 : decode cX6_set 119 = .ok (.aload_n 0, 1) := by decide +kernel
theorem dX6_set_120 : decode cX6_set 120 = .ok (.bipush 35, 2) := by decide +kernel
theorem dX6_set_122 : decode cX6_set 122 = .ok (.iconst 5, 1) := by decide +kernel
theorem dX6_set_123 : decode cX6_set 123 = .ok (.iload_n 1, 1) := by decide +kernel
theorem dX6_set_124 : decode cX6_set 124 = .ok (.imul, 1) := by decide +kernel
theorem dX6_set_125 : decode cX6_set 125 = .ok (.iadd, 1) := by decide +kernel
theorem dX6_set_126 : decode cX6_set 126 = .ok (.iconst 4, 1) := by decide +kernel
theorem dX6_set_127 : decode cX6_set 127 = .ok (.iadd, 1) := by decide +kernel
theorem dX6_set_128 : decode cX6_set 128 = .ok (.iload_n 3, 1) := by decide +kernel
theorem dX6_set_129 : decode cX6_set 129 = .ok (.invokevirtual 49, 3) := by decide +kernel
theorem dX6_set_132 : decode cX6_set 132 = .ok (.goto 9, 3) := by decide +kernel
theorem dX6_set_135 : decode cX6_set 135 = .ok (.aload_n 0, 1) := by decide +kernel
theorem dX6_set_136 : decode cX6_set 136 = .ok (.ldc 44, 2) := by decide +kernel
theorem dX6_set_138 : decode cX6_set 138 = .ok (.invokevirtual 53, 3) := by decide +kernel
theorem dX6_set_141 : decode cX6_set 141 = .ok (.ireturn, 1) := by decide +kernel
theorem dX6_turn_0 : decode cX6_turn 0 = .ok (.aload_n 0, 1) := by decide +kernel
theorem dX6_turn_1 : decode cX6_turn 1 = .ok (.iload_n 1, 1) := by decide +kernel
theorem dX6_turn_2 : decode cX6_turn 2 = .ok (.invokevirtual 81, 3) := by decide +kernel
theorem dX6_turn_5 : decode cX6_turn 5 = .ok (.ifCond .eq 24, 3) := by decide +kernel
theorem dX6_turn_8 : decode cX6_turn 8 = .ok (.iload_n 2, 1) := by decide +kernel
theorem dX6_turn_9 : decode cX6_turn 9 = .ok (.invokestatic 74, 3) := by decide +kernel
theorem dX6_turn_12 : decode cX6_turn 12 = .ok (.ifCond .eq 17, 3) := by decide +kernel
theorem dX6_turn_15 : decode cX6_turn 15 = .ok (.aload_n 0, 1) := by decide +kernel
theorem dX6_turn_16 : decode cX6_turn 16 = .ok (.bipush 35, 2) := by decide +kernel
theorem dX6_turn_18 : decode cX6_turn 18 = .ok (.iconst 5, 1) := by decide +kernel
theorem dX6_turn_19 : decode cX6_turn 19 = .ok (.iload_n 1, 1) := by decide +kernel
theorem dX6_turn_20 : decode cX6_turn 20 = .ok (.imul, 1) := by decide +kernel
theorem dX6_turn_21 : decode cX6_turn 21 = .ok (.iadd, 1) := by decide +kernel
theorem dX6_turn_22 : decode cX6_turn 22 = .ok (.iload_n 2, 1) := by decide +kernel
theorem dX6_turn_23 : decode cX6_turn 23 = .ok (.invokevirtual 49, 3) := by decide +kernel
theorem dX6_turn_26 : decode cX6_turn 26 = .ok (.goto 9, 3) := by decide +kernel
theorem dX6_turn_29 : decode cX6_turn 29 = .ok (.aload_n 0, 1) := by decide +kernel
theorem dX6_turn_30 : decode cX6_turn 30 = .ok (.ldc 44, 2) := by decide +kernel
theorem dX6_turn_32 : decode cX6_turn 32 = .ok (.invokevirtual 53, 3) := by decide +kernel
theorem dX6_turn_35 : decode cX6_turn 35 = .ok (.ireturn, 1) := by decide +kernel
theorem dX6_as_0 : decode cX6_as 0 = .ok (.aload_n 0, 1) := by decide +kernel
theorem dX6_as_1 : decode cX6_as 1 = .ok (.iload_n 1, 1) := by decide +kernel
theorem dX6_as_2 : decode cX6_as 2 = .ok (.invokevirtual 81, 3) := by decide +kernel
theorem dX6_as_5 : decode cX6_as 5 = .ok (.ifCond .eq 10, 3) := by decide +kernel
theorem dX6_as_8 : decode cX6_as 8 = .ok (.iload_n 2, 1) := by decide +kernel
theorem dX6_as_9 : decode cX6_as 9 = .ok (.invokestatic 74, 3) := by decide +kernel
theorem dX6_as_12 : decode cX6_as 12 = .ok (.ifCond .ne 10, 3) := by decide +kernel
theorem dX6_as_15 : decode cX6_as 15 = .ok (.aload_n 0, 1) := by decide +kernel
theorem dX6_as_16 : decode cX6_as 16 = .ok (.ldc 44, 2) := by decide +kernel
theorem dX6_as_18 : decode cX6_as 18 = .ok (.invokevirtual 53, 3) := by decide +kernel
theorem dX6_as_21 : decode cX6_as 21 = .ok (.ireturn, 1) := by decide +kernel
theorem dX6_as_22 : decode cX6_as 22 = .ok (.aload_n 0, 1) := by decide +kernel
theorem dX6_as_23 : decode cX6_as 23 = .ok (.iload_n 1, 1) := by decide +kernel
theorem dX6_as_24 : decode cX6_as 24 = .ok (.iconst 0, 1) := by decide +kernel
theorem dX6_as_25 : decode cX6_as 25 = .ok (.invokevirtual 60, 3) := by decide +kernel
theorem dX6_as_28 : decode cX6_as 28 = .ok (.istore_n 3, 1) := by decide +kernel
theorem dX6_as_29 : decode cX6_as 29 = .ok (.iload_n 2, 1) := by decide +kernel
theorem dX6_as_30 : decode cX6_as 30 = .ok (.ifCond .eq 28, 3) := by decide +kernel
theorem dX6_as_33 : decode cX6_as 33 = .ok (.iload_n 2, 1) := by decide +kernel
theorem dX6_as_34 : decode cX6_as 34 = .ok (.iload_n 3, 1) := by decide +kernel
theorem dX6_as_35 : decode cX6_as 35 = .ok (.if_icmp .eq 23, 3) := by decide +kernel
theorem dX6_as_38 : decode cX6_as 38 = .ok (.iload_n 2, 1) := by decide +kernel
theorem dX6_as_39 : decode cX6_as 39 = .ok (.iconst 1, 1) := by decide +kernel
theorem dX6_as_40 : decode cX6_as 40 = .ok (.if_icmp .ne 8, 3) := by decide +kernel
theorem dX6_as_43 : decode cX6_as 43 = .ok (.iload_n 3, 1) := by decide +kernel
theorem dX6_as_44 : decode cX6_as 44 = .ok (.iconst 4, 1) := by decide +kernel
theorem dX6_as_45 : decode cX6_as 45 = .ok (.if_icmp .eq 13, 3) := by decide +kernel
theorem dX6_as_48 : decode cX6_as 48 = .ok (.iload_n 2, 1) := by decide +kernel
theorem dX6_as_49 : decode cX6_as 49 = .ok (.iconst 2, 1) := by decide +kernel
theorem dX6_as_50 : decode cX6_as 50 = .ok (.if_icmp .ne 12, 3) := by decide +kernel
theorem dX6_as_53 : decode cX6_as 53 = .ok (.iload_n 3, 1) := by decide +kernel
theorem dX6_as_54 : decode cX6_as 54 = .ok (.iconst 5, 1) := by decide +kernel
theorem dX6_as_55 : decode cX6_as 55 = .ok (.if_icmp .ne 7, 3) := by decide +kernel
theorem dX6_as_58 : decode cX6_as 58 = .ok (.iconst 1, 1) := by decide +kernel
theorem dX6_as_59 : decode cX6_as 59 = .ok (.goto 4, 3) := by decide +kernel
theorem dX6_as_62 : decode cX6_as 62 = .ok (.iconst 0, 1) := by decide +kernel
theorem dX6_as_63 : decode cX6_as 63 = .ok (.istore 4, 2) := by decide +kernel
theorem dX6_as_65 : decode cX6_as 65 = .ok (.iload 4, 2) := by decide +kernel
theorem dX6_as_67 : decode cX6_as 67 = .ok (.ifCond .eq 12, 3) := by decide +kernel
theorem dX6_as_70 : decode cX6_as 70 = .ok (.aload_n 0, 1) := by decide +kernel
theorem dX6_as_71 : decode cX6_as 71 = .ok (.iload_n 1, 1) := by decide +kernel
theorem dX6_as_72 : decode cX6_as 72 = .ok (.iconst 3, 1) := by decide +kernel
theorem dX6_as_73 : decode cX6_as 73 = .ok (.invokevirtual 60, 3) := by decide +kernel
theorem dX6_as_76 : decode cX6_as 76 = .ok (.goto 9, 3) := by decide +kernel
theorem dX6_as_79 : decode cX6_as 79 = .ok (.aload_n 0, 1) := by decide +kernel
theorem dX6_as_80 : decode cX6_as 80 = .ok (.ldc 96, 2) := by decide +kernel
theorem dX6_as_82 : decode cX6_as 82 = .ok (.invokevirtual 53, 3) := by decide +kernel
theorem dX6_as_85 : decode cX6_as 85 = .ok (.ireturn, 1) := by decide +kernel
theorem dX6_onSet_0 : decode cX6_onSet 0 = .ok (.iconst 0, 1) := by decide +kernel
theorem dX6_onSet_1 : decode cX6_onSet 1 = .ok (.istore_n 1, 1) := by decide +kernel
theorem dX6_onSet_2 : decode cX6_onSet 2 = .ok (.iconst 0, 1) := by decide +kernel
theorem dX6_onSet_3 : decode cX6_onSet 3 = .ok (.istore_n 2, 1) := by decide +kernel
theorem dX6_onSet_4 : decode cX6_onSet 4 = .ok (.iload_n 2, 1) := by decide +kernel
theorem dX6_onSet_5 : decode cX6_onSet 5 = .ok (.aload_n 0, 1) := by decide +kernel
theorem dX6_onSet_6 : decode cX6_onSet 6 = .ok (.getfield 7, 3) := by decide +kernel
theorem dX6_onSet_9 : decode cX6_onSet 9 = .ok (.bipush 6, 2) := by decide +kernel
theorem dX6_onSet_11 : decode cX6_onSet 11 = .ok (.iaload, 1) := by decide +kernel
theorem dX6_onSet_12 : decode cX6_onSet 12 = .ok (.if_icmp .ge 20, 3) := by decide +kernel
theorem dX6_onSet_15 : decode cX6_onSet 15 = .ok (.iload_n 1, 1) := by decide +kernel
theorem dX6_onSet_16 : decode cX6_onSet 16 = .ok (.aload_n 0, 1) := by decide +kernel
theorem dX6_onSet_17 : decode cX6_onSet 17 = .ok (.iload_n 2, 1) := by decide +kernel
theorem dX6_onSet_18 : decode cX6_onSet 18 = .ok (.iconst 1, 1) := by decide +kernel
theorem dX6_onSet_19 : decode cX6_onSet 19 = .ok (.invokevirtual 60, 3) := by decide +kernel
theorem dX6_onSet_22 : decode cX6_onSet 22 = .ok (.iload_n 2, 1) := by decide +kernel
theorem dX6_onSet_23 : decode cX6_onSet 23 = .ok (.ishl, 1) := by decide +kernel
theorem dX6_onSet_24 : decode cX6_onSet 24 = .ok (.ior, 1) := by decide +kernel
theorem dX6_onSet_25 : decode cX6_onSet 25 = .ok (.istore_n 1, 1) := by decide +kernel
theorem dX6_onSet_26 : decode cX6_onSet 26 = .ok (.iinc 2 1, 3) := by decide +kernel
theorem dX6_onSet_29 : decode cX6_onSet 29 = .ok (.goto (-25), 3) := by decide +kernel
theorem dX6_onSet_32 : decode cX6_onSet 32 = .ok (.iload_n 1, 1) := by decide +kernel
theorem dX6_onSet_33 : decode cX6_onSet 33 = .ok (.ireturn, 1) := by decide +kernel
theorem dX6_usesAll_0 : decode cX6_usesAll 0 = .ok (.iconst 0, 1) := by decide +kernel
theorem dX6_usesAll_1 : decode cX6_usesAll 1 = .ok (.istore_n 1, 1) := by decide +kernel
theorem dX6_usesAll_2 : decode cX6_usesAll 2 = .ok (.iconst 0, 1) := by decide +kernel
theorem dX6_usesAll_3 : decode cX6_usesAll 3 = .ok (.istore_n 2, 1) := by decide +kernel
theorem dX6_usesAll_4 : decode cX6_usesAll 4 = .ok (.iload_n 2, 1) := by decide +kernel
theorem dX6_usesAll_5 : decode cX6_usesAll 5 = .ok (.aload_n 0, 1) := by decide +kernel
theorem dX6_usesAll_6 : decode cX6_usesAll 6 = .ok (.getfield 7, 3) := by decide +kernel
theorem dX6_usesAll_9 : decode cX6_usesAll 9 = .ok (.bipush 6, 2) := by decide +kernel
theorem dX6_usesAll_11 : decode cX6_usesAll 11 = .ok (.iaload, 1) := by decide +kernel
theorem dX6_usesAll_12 : decode cX6_usesAll 12 = .ok (.if_icmp .ge 31, 3) := by decide +kernel
theorem dX6_usesAll_15 : decode cX6_usesAll 15 = .ok (.iload_n 1, 1) := by decide +kernel
theorem dX6_usesAll_16 : decode cX6_usesAll 16 = .ok (.aload_n 0, 1) := by decide +kernel
theorem dX6_usesAll_17 : decode cX6_usesAll 17 = .ok (.iload_n 2, 1) := by decide +kernel
theorem dX6_usesAll_18 : decode cX6_usesAll 18 = .ok (.iconst 1, 1) := by decide +kernel
theorem dX6_usesAll_19 : decode cX6_usesAll 19 = .ok (.invokevirtual 60, 3) := by decide +kernel
theorem dX6_usesAll_22 : decode cX6_usesAll 22 = .ok (.iconst 1, 1) := by decide +kernel
theorem dX6_usesAll_23 : decode cX6_usesAll 23 = .ok (.if_icmp .ne 11, 3) := by decide +kernel
theorem dX6_usesAll_26 : decode cX6_usesAll 26 = .ok (.aload_n 0, 1) := by decide +kernel
theorem dX6_usesAll_27 : decode cX6_usesAll 27 = .ok (.iload_n 2, 1) := by decide +kernel
theorem dX6_usesAll_28 : decode cX6_usesAll 28 = .ok (.invokevirtual 84, 3) := by decide +kernel
theorem dX6_usesAll_31 : decode cX6_usesAll 31 = .ok (.goto 4, 3) := by decide +kernel
theorem dX6_usesAll_34 : decode cX6_usesAll 34 = .ok (.iconst 0, 1) := by decide +kernel
theorem dX6_usesAll_35 : decode cX6_usesAll 35 = .ok (.iadd, 1) := by decide +kernel
theorem dX6_usesAll_36 : decode cX6_usesAll 36 = .ok (.istore_n 1, 1) := by decide +kernel
theorem dX6_usesAll_37 : decode cX6_usesAll 37 = .ok (.iinc 2 1, 3) := by decide +kernel
theorem dX6_usesAll_40 : decode cX6_usesAll 40 = .ok (.goto (-36), 3) := by decide +kernel
theorem dX6_usesAll_43 : decode cX6_usesAll 43 = .ok (.iload_n 1, 1) := by decide +kernel
theorem dX6_usesAll_44 : decode cX6_usesAll 44 = .ok (.ireturn, 1) := by decide +kernel
theorem dX6_first_0 : decode cX6_first 0 = .ok (.iconst (-1), 1) := by decide +kernel
theorem dX6_first_1 : decode cX6_first 1 = .ok (.istore_n 2, 1) := by decide +kernel
theorem dX6_first_2 : decode cX6_first 2 = .ok (.iconst 0, 1) := by decide +kernel
theorem dX6_first_3 : decode cX6_first 3 = .ok (.istore_n 3, 1) := by decide +kernel
theorem dX6_first_4 : decode cX6_first 4 = .ok (.iload_n 3, 1) := by decide +kernel
theorem dX6_first_5 : decode cX6_first 5 = .ok (.aload_n 0, 1) := by decide +kernel
theorem dX6_first_6 : decode cX6_first 6 = .ok (.getfield 7, 3) := by decide +kernel
theorem dX6_first_9 : decode cX6_first 9 = .ok (.bipush 6, 2) := by decide +kernel
theorem dX6_first_11 : decode cX6_first 11 = .ok (.iaload, 1) := by decide +kernel
theorem dX6_first_12 : decode cX6_first 12 = .ok (.if_icmp .ge 44, 3) := by decide +kernel
theorem dX6_first_15 : decode cX6_first 15 = .ok (.aload_n 0, 1) := by decide +kernel
theorem dX6_first_16 : decode cX6_first 16 = .ok (.iload_n 3, 1) := by decide +kernel
theorem dX6_first_17 : decode cX6_first 17 = .ok (.iconst 1, 1) := by decide +kernel
theorem dX6_first_18 : decode cX6_first 18 = .ok (.invokevirtual 60, 3) := by decide +kernel
theorem dX6_first_21 : decode cX6_first 21 = .ok (.iload_n 1, 1) := by decide +kernel
theorem dX6_first_22 : decode cX6_first 22 = .ok (.if_icmp .ne 26, 3) := by decide +kernel
theorem dX6_first_25 : decode cX6_first 25 = .ok (.iload_n 2, 1) := by decide +kernel
theorem dX6_first_26 : decode cX6_first 26 = .ok (.ifCond .lt 18, 3) := by decide +kernel
theorem dX6_first_29 : decode cX6_first 29 = .ok (.aload_n 0, 1) := by decide +kernel
theorem dX6_first_30 : decode cX6_first 30 = .ok (.iload_n 3, 1) := by decide +kernel
theorem dX6_first_31 : decode cX6_first 31 = .ok (.iconst 2, 1) := by decide +kernel
theorem dX6_first_32 : decode cX6_first 32 = .ok (.invokevirtual 60, 3) := by decide +kernel
theorem dX6_first_35 : decode cX6_first 35 = .ok (.aload_n 0, 1) := by decide +kernel
theorem dX6_first_36 : decode cX6_first 36 = .ok (.iload_n 2, 1) := by decide +kernel
theorem dX6_first_37 : decode cX6_first 37 = .ok (.iconst 2, 1) := by decide +kernel
theorem dX6_first_38 : decode cX6_first 38 = .ok (.invokevirtual 60, 3) := by decide +kernel
theorem dX6_first_41 : decode cX6_first 41 = .ok (.if_icmp .ge 7, 3) := by decide +kernel
theorem dX6_first_44 : decode cX6_first 44 = .ok (.iload_n 3, 1) := by decide +kernel
theorem dX6_first_45 : decode cX6_first 45 = .ok (.goto 4, 3) := by decide +kernel
theorem dX6_first_48 : decode cX6_first 48 = .ok (.iload_n 2, 1) := by decide +kernel
theorem dX6_first_49 : decode cX6_first 49 = .ok (.istore_n 2, 1) := by decide +kernel
theorem dX6_first_50 : decode cX6_first 50 = .ok (.iinc 3 1, 3) := by decide +kernel
theorem dX6_first_53 : decode cX6_first 53 = .ok (.goto (-49), 3) := by decide +kernel
theorem dX6_first_56 : decode cX6_first 56 = .ok (.iload_n 2, 1) := by decide +kernel
theorem dX6_first_57 : decode cX6_first 57 = .ok (.ireturn, 1) := by decide +kernel
theorem dX6_learnt_0 : decode cX6_learnt 0 = .ok (.iconst 0, 1) := by decide +kernel
theorem dX6_learnt_1 : decode cX6_learnt 1 = .ok (.istore_n 3, 1) := by decide +kernel
theorem dX6_learnt_2 : decode cX6_learnt 2 = .ok (.iload_n 2, 1) := by decide +kernel
theorem dX6_learnt_3 : decode cX6_learnt 3 = .ok (.istore 4, 2) := by decide +kernel
theorem dX6_learnt_5 : decode cX6_learnt 5 = .ok (.iconst 0, 1) := by decide +kernel
theorem dX6_learnt_6 : decode cX6_learnt 6 = .ok (.istore 5, 2) := by decide +kernel
theorem dX6_learnt_8 : decode cX6_learnt 8 = .ok (.iload 5, 2) := by decide +kernel
theorem dX6_learnt_10 : decode cX6_learnt 10 = .ok (.bipush 9, 2) := by decide +kernel
theorem dX6_learnt_12 : decode cX6_learnt 12 = .ok (.if_icmp .ge 43, 3) := by decide +kernel
theorem dX6_learnt_15 : decode cX6_learnt 15 = .ok (.iload 4, 2) := by decide +kernel
theorem dX6_learnt_17 : decode cX6_learnt 17 = .ok (.ifCond .le 38, 3) := by decide +kernel
theorem dX6_learnt_20 : decode cX6_learnt 20 = .ok (.iload_n 0, 1) := by decide +kernel
theorem dX6_learnt_21 : decode cX6_learnt 21 = .ok (.iload 5, 2) := by decide +kernel
theorem dX6_learnt_23 : decode cX6_learnt 23 = .ok (.ishr, 1) := by decide +kernel
theorem dX6_learnt_24 : decode cX6_learnt 24 = .ok (.iconst 1, 1) := by decide +kernel
theorem dX6_learnt_25 : decode cX6_learnt 25 = .ok (.iand, 1) := by decide +kernel
theorem dX6_learnt_26 : decode cX6_learnt 26 = .ok (.iconst 1, 1) := by decide +kernel
theorem dX6_learnt_27 : decode cX6_learnt 27 = .ok (.if_icmp .ne 22, 3) := by decide +kernel
theorem dX6_learnt_30 : decode cX6_learnt 30 = .ok (.iload_n 1, 1) := by decide +kernel
theorem dX6_learnt_31 : decode cX6_learnt 31 = .ok (.iload 5, 2) := by decide +kernel
theorem dX6_learnt_33 : decode cX6_learnt 33 = .ok (.ishr, 1) := by decide +kernel
theorem dX6_learnt_34 : decode cX6_learnt 34 = .ok (.iconst 1, 1) := by decide +kernel
theorem dX6_learnt_35 : decode cX6_learnt 35 = .ok (.iand, 1) := by decide +kernel
theorem dX6_learnt_36 : decode cX6_learnt 36 = .ok (.ifCond .ne 13, 3) := by decide +kernel
theorem dX6_learnt_39 : decode cX6_learnt 39 = .ok (.iload_n 3, 1) := by decide +kernel
theorem dX6_learnt_40 : decode cX6_learnt 40 = .ok (.iconst 1, 1) := by decide +kernel
theorem dX6_learnt_41 : decode cX6_learnt 41 = .ok (.iload 5, 2) := by decide +kernel
theorem dX6_learnt_43 : decode cX6_learnt 43 = .ok (.ishl, 1) := by decide +kernel
theorem dX6_learnt_44 : decode cX6_learnt 44 = .ok (.ior, 1) := by decide +kernel
theorem dX6_learnt_45 : decode cX6_learnt 45 = .ok (.istore_n 3, 1) := by decide +kernel
theorem dX6_learnt_46 : decode cX6_learnt 46 = .ok (.iinc 4 (-1), 3) := by decide +kernel
theorem dX6_learnt_49 : decode cX6_learnt 49 = .ok (.iinc 5 1, 3) := by decide +kernel
theorem dX6_learnt_52 : decode cX6_learnt 52 = .ok (.goto (-44), 3) := by decide +kernel
theorem dX6_learnt_55 : decode cX6_learnt 55 = .ok (.iload_n 3, 1) := by decide +kernel
theorem dX6_learnt_56 : decode cX6_learnt 56 = .ok (.ireturn, 1) := by decide +kernel
theorem dX6_relieves_0 : decode cX6_relieves 0 = .ok (.aload_n 0, 1) := by decide +kernel
theorem dX6_relieves_1 : decode cX6_relieves 1 = .ok (.iconst 0, 1) := by decide +kernel
theorem dX6_relieves_2 : decode cX6_relieves 2 = .ok (.invokevirtual 97, 3) := by decide +kernel
theorem dX6_relieves_5 : decode cX6_relieves 5 = .ok (.istore_n 2, 1) := by decide +kernel
theorem dX6_relieves_6 : decode cX6_relieves 6 = .ok (.aload_n 0, 1) := by decide +kernel
theorem dX6_relieves_7 : decode cX6_relieves 7 = .ok (.invokevirtual 100, 3) := by decide +kernel
theorem dX6_relieves_10 : decode cX6_relieves 10 = .ok (.invokestatic 104, 3) := by decide +kernel
theorem dX6_relieves_13 : decode cX6_relieves 13 = .ok (.aload_n 0, 1) := by decide +kernel
theorem dX6_relieves_14 : decode cX6_relieves 14 = .ok (.getfield 7, 3) := by decide +kernel
theorem dX6_relieves_17 : decode cX6_relieves 17 = .ok (.iconst 3, 1) := by decide +kernel
theorem dX6_relieves_18 : decode cX6_relieves 18 = .ok (.iaload, 1) := by decide +kernel
theorem dX6_relieves_19 : decode cX6_relieves 19 = .ok (.if_icmp .lt 11, 3) := by decide +kernel
theorem dX6_relieves_22 : decode cX6_relieves 22 = .ok (.aload_n 0, 1) := by decide +kernel
theorem dX6_relieves_23 : decode cX6_relieves 23 = .ok (.iconst 1, 1) := by decide +kernel
theorem dX6_relieves_24 : decode cX6_relieves 24 = .ok (.invokevirtual 97, 3) := by decide +kernel
theorem dX6_relieves_27 : decode cX6_relieves 27 = .ok (.goto 4, 3) := by decide +kernel
theorem dX6_relieves_30 : decode cX6_relieves 30 = .ok (.iconst (-1), 1) := by decide +kernel
theorem dX6_relieves_31 : decode cX6_relieves 31 = .ok (.istore_n 3, 1) := by decide +kernel
theorem dX6_relieves_32 : decode cX6_relieves 32 = .ok (.aload_n 0, 1) := by decide +kernel
theorem dX6_relieves_33 : decode cX6_relieves 33 = .ok (.getfield 7, 3) := by decide +kernel
theorem dX6_relieves_36 : decode cX6_relieves 36 = .ok (.iconst 2, 1) := by decide +kernel
theorem dX6_relieves_37 : decode cX6_relieves 37 = .ok (.aload_n 0, 1) := by decide +kernel
theorem dX6_relieves_38 : decode cX6_relieves 38 = .ok (.getfield 7, 3) := by decide +kernel
theorem dX6_relieves_41 : decode cX6_relieves 41 = .ok (.iconst 2, 1) := by decide +kernel
theorem dX6_relieves_42 : decode cX6_relieves 42 = .ok (.iaload, 1) := by decide +kernel
theorem dX6_relieves_43 : decode cX6_relieves 43 = .ok (.aload_n 0, 1) := by decide +kernel
theorem dX6_relieves_44 : decode cX6_relieves 44 = .ok (.iload_n 2, 1) := by decide +kernel
theorem dX6_relieves_45 : decode cX6_relieves 45 = .ok (.iload_n 1, 1) := by decide +kernel
theorem dX6_relieves_46 : decode cX6_relieves 46 = .ok (.invokevirtual 87, 3) := by decide +kernel
theorem dX6_relieves_49 : decode cX6_relieves 49 = .ok (.iadd, 1) := by decide +kernel
theorem dX6_relieves_50 : decode cX6_relieves 50 = .ok (.iconst 0, 1) := by decide +kernel
theorem dX6_relieves_51 : decode cX6_relieves 51 = .ok (.sipush 9999, 3) := by decide +kernel
theorem dX6_relieves_54 : decode cX6_relieves 54 = .ok (.invokestatic 107, 3) := by decide +kernel
theorem dX6_relieves_57 : decode cX6_relieves 57 = .ok (.iastore, 1) := by decide +kernel
theorem dX6_relieves_58 : decode cX6_relieves 58 = .ok (.iload_n 3, 1) := by decide +kernel
theorem dX6_relieves_59 : decode cX6_relieves 59 = .ok (.ifCond .lt 126, 3) := by decide +kernel
theorem dX6_relieves_62 : decode cX6_relieves 62 = .ok (.aload_n 0, 1) := by decide +kernel
theorem dX6_relieves_63 : decode cX6_relieves 63 = .ok (.iload_n 2, 1) := by decide +kernel
theorem dX6_relieves_64 : decode cX6_relieves 64 = .ok (.iconst 3, 1) := by decide +kernel
theorem dX6_relieves_65 : decode cX6_relieves 65 = .ok (.invokevirtual 60, 3) := by decide +kernel
theorem dX6_relieves_68 : decode cX6_relieves 68 = .ok (.istore 4, 2) := by decide +kernel
theorem dX6_relieves_70 : decode cX6_relieves 70 = .ok (.aload_n 0, 1) := by decide +kernel
theorem dX6_relieves_71 : decode cX6_relieves 71 = .ok (.iload_n 3, 1) := by decide +kernel
theorem dX6_relieves_72 : decode cX6_relieves 72 = .ok (.iconst 3, 1) := by decide +kernel
theorem dX6_relieves_73 : decode cX6_relieves 73 = .ok (.invokevirtual 60, 3) := by decide +kernel
theorem dX6_relieves_76 : decode cX6_relieves 76 = .ok (.istore 5, 2) := by decide +kernel
theorem dX6_relieves_78 : decode cX6_relieves 78 = .ok (.aload_n 0, 1) := by decide +kernel
theorem dX6_relieves_79 : decode cX6_relieves 79 = .ok (.iload_n 3, 1) := by decide +kernel
theorem dX6_relieves_80 : decode cX6_relieves 80 = .ok (.iconst 3, 1) := by decide +kernel
theorem dX6_relieves_81 : decode cX6_relieves 81 = .ok (.iload 5, 2) := by decide +kernel
theorem dX6_relieves_83 : decode cX6_relieves 83 = .ok (.iload 4, 2) := by decide +kernel
theorem dX6_relieves_85 : decode cX6_relieves 85 = .ok (.iload 5, 2) := by decide +kernel
