theorem dX1_init_0 : decode cX1_init 0 = .ok (.aload_n 0, 1) := by decide +kernel
theorem dX1_init_1 : decode cX1_init 1 = .ok (.invokespecial 3, 3) := by decide +kernel
theorem dX1_init_4 : decode cX1_init 4 = .ok (.aload_n 0, 1) := by decide +kernel
theorem dX1_init_5 : decode cX1_init 5 = .ok (.bipush 28, 2) := by decide +kernel
theorem dX1_init_7 : decode cX1_init 7 = .ok (.newarray .int, 2) := by decide +kernel
theorem dX1_init_9 : decode cX1_init 9 = .ok (.putfield 9, 3) := by decide +kernel
theorem dX1_init_12 : decode cX1_init 12 = .ok (.aload_n 0, 1) := by decide +kernel
theorem dX1_init_13 : decode cX1_init 13 = .ok (.iconst 0, 1) := by decide +kernel
theorem dX1_init_14 : decode cX1_init 14 = .ok (.putfield 15, 3) := by decide +kernel
theorem dX1_init_17 : decode cX1_init 17 = .ok (.aload_n 0, 1) := by decide +kernel
theorem dX1_init_18 : decode cX1_init 18 = .ok (.bipush 9, 2) := by decide +kernel
theorem dX1_init_20 : decode cX1_init 20 = .ok (.putfield 19, 3) := by decide +kernel
theorem dX1_init_23 : decode cX1_init 23 = .ok (.aload_n 0, 1) := by decide +kernel
theorem dX1_init_24 : decode cX1_init 24 = .ok (.iconst 0, 1) := by decide +kernel
theorem dX1_init_25 : decode cX1_init 25 = .ok (.putfield 22, 3) := by decide +kernel
theorem dX1_init_28 : decode cX1_init 28 = .ok (.aload_n 0, 1) := by decide +kernel
theorem dX1_init_29 : decode cX1_init 29 = .ok (.bipush 100, 2) := by decide +kernel
theorem dX1_init_31 : decode cX1_init 31 = .ok (.putfield 25, 3) := by decide +kernel
theorem dX1_init_34 : decode cX1_init 34 = .ok (.aload_n 0, 1) := by decide +kernel
theorem dX1_init_35 : decode cX1_init 35 = .ok (.iconst 2, 1) := by decide +kernel
theorem dX1_init_36 : decode cX1_init 36 = .ok (.putfield 28, 3) := by decide +kernel
theorem dX1_init_39 : decode cX1_init 39 = .ok (.aload_n 0, 1) := by decide +kernel
theorem dX1_init_40 : decode cX1_init 40 = .ok (.iconst 0, 1) := by decide +kernel
theorem dX1_init_41 : decode cX1_init 41 = .ok (.putfield 31, 3) := by decide +kernel
theorem dX1_init_44 : decode cX1_init 44 = .ok (.aload_n 0, 1) := by decide +kernel
theorem dX1_init_45 : decode cX1_init 45 = .ok (.iconst 0, 1) := by decide +kernel
theorem dX1_init_46 : decode cX1_init 46 = .ok (.putfield 34, 3) := by decide +kernel
theorem dX1_init_49 : decode cX1_init 49 = .ok (.aload_n 0, 1) := by decide +kernel
theorem dX1_init_50 : decode cX1_init 50 = .ok (.bipush 8, 2) := by decide +kernel
theorem dX1_init_52 : decode cX1_init 52 = .ok (.newarray .int, 2) := by decide +kernel
theorem dX1_init_54 : decode cX1_init 54 = .ok (.putfield 37, 3) := by decide +kernel
theorem dX1_init_57 : decode cX1_init 57 = .ok (.aload_n 0, 1) := by decide +kernel
theorem dX1_init_58 : decode cX1_init 58 = .ok (.bipush 8, 2) := by decide +kernel
theorem dX1_init_60 : decode cX1_init 60 = .ok (.newarray .int, 2) := by decide +kernel
theorem dX1_init_62 : decode cX1_init 62 = .ok (.putfield 40, 3) := by decide +kernel
theorem dX1_init_65 : decode cX1_init 65 = .ok (.aload_n 0, 1) := by decide +kernel
theorem dX1_init_66 : decode cX1_init 66 = .ok (.bipush 8, 2) := by decide +kernel
theorem dX1_init_68 : decode cX1_init 68 = .ok (.newarray .int, 2) := by decide +kernel
theorem dX1_init_70 : decode cX1_init 70 = .ok (.putfield 43, 3) := by decide +kernel
theorem dX1_init_73 : decode cX1_init 73 = .ok (.aload_n 0, 1) := by decide +kernel
theorem dX1_init_74 : decode cX1_init 74 = .ok (.bipush 8, 2) := by decide +kernel
theorem dX1_init_76 : decode cX1_init 76 = .ok (.newarray .int, 2) := by decide +kernel
theorem dX1_init_78 : decode cX1_init 78 = .ok (.putfield 46, 3) := by decide +kernel
theorem dX1_init_81 : decode cX1_init 81 = .ok (.aload_n 0, 1) := by decide +kernel
theorem dX1_init_82 : decode cX1_init 82 = .ok (.bipush 8, 2) := by decide +kernel
theorem dX1_init_84 : decode cX1_init 84 = .ok (.newarray .int, 2) := by decide +kernel
theorem dX1_init_86 : decode cX1_init 86 = .ok (.putfield 49, 3) := by decide +kernel
theorem dX1_init_89 : decode cX1_init 89 = .ok (.aload_n 0, 1) := by decide +kernel
theorem dX1_init_90 : decode cX1_init 90 = .ok (.iconst (-1), 1) := by decide +kernel
theorem dX1_init_91 : decode cX1_init 91 = .ok (.putfield 52, 3) := by decide +kernel
theorem dX1_init_94 : decode cX1_init 94 = .ok (.aload_n 0, 1) := by decide +kernel
theorem dX1_init_95 : decode cX1_init 95 = .ok (.iconst (-1), 1) := by decide +kernel
theorem dX1_init_96 : decode cX1_init 96 = .ok (.putfield 55, 3) := by decide +kernel
theorem dX1_init_99 : decode cX1_init 99 = .ok (.iconst 0, 1) := by decide +kernel
theorem dX1_init_100 : decode cX1_init 100 = .ok (.istore_n 1, 1) := by decide +kernel
theorem dX1_init_101 : decode cX1_init 101 = .ok (.iload_n 1, 1) := by decide +kernel
theorem dX1_init_102 : decode cX1_init 102 = .ok (.bipush 28, 2) := by decide +kernel
theorem dX1_init_104 : decode cX1_init 104 = .ok (.if_icmp .ge 21, 3) := by decide +kernel
theorem dX1_init_107 : decode cX1_init 107 = .ok (.aload_n 0, 1) := by decide +kernel
theorem dX1_init_108 : decode cX1_init 108 = .ok (.getfield 9, 3) := by decide +kernel
theorem dX1_init_111 : decode cX1_init 111 = .ok (.iload_n 1, 1) := by decide +kernel
theorem dX1_init_112 : decode cX1_init 112 = .ok (.iconst 5, 1) := by decide +kernel
theorem dX1_init_113 : decode cX1_init 113 = .ok (.iload_n 1, 1) := by decide +kernel
theorem dX1_init_114 : decode cX1_init 114 = .ok (.imul, 1) := by decide +kernel
theorem dX1_init_115 : decode cX1_init 115 = .ok (.bipush 13, 2) := by decide +kernel
theorem dX1_init_117 : decode cX1_init 117 = .ok (.irem, 1) := by decide +kernel
theorem dX1_init_118 : decode cX1_init 118 = .ok (.iastore, 1) := by decide +kernel
theorem dX1_init_119 : decode cX1_init 119 = .ok (.iinc 1 1, 3) := by decide +kernel
theorem dX1_init_122 : decode cX1_init 122 = .ok (.goto (-21), 3) := by decide +kernel
theorem dX1_init_125 : decode cX1_init 125 = .ok (.return_, 1) := by decide +kernel
theorem dX1_becomeLike_0 : decode cX1_becomeLike 0 = .ok (.aload_n 1, 1) := by decide +kernel
theorem dX1_becomeLike_1 : decode cX1_becomeLike 1 = .ok (.getfield 9, 3) := by decide +kernel
theorem dX1_becomeLike_4 : decode cX1_becomeLike 4 = .ok (.iconst 0, 1) := by decide +kernel
theorem dX1_becomeLike_5 : decode cX1_becomeLike 5 = .ok (.aload_n 0, 1) := by decide +kernel
theorem dX1_becomeLike_6 : decode cX1_becomeLike 6 = .ok (.getfield 9, 3) := by decide +kernel
theorem dX1_becomeLike_9 : decode cX1_becomeLike 9 = .ok (.iconst 0, 1) := by decide +kernel
theorem dX1_becomeLike_10 : decode cX1_becomeLike 10 = .ok (.bipush 28, 2) := by decide +kernel
theorem dX1_becomeLike_12 : decode cX1_becomeLike 12 = .ok (.invokestatic 58, 3) := by decide +kernel
theorem dX1_becomeLike_15 : decode cX1_becomeLike 15 = .ok (.aload_n 0, 1) := by decide +kernel
theorem dX1_becomeLike_16 : decode cX1_becomeLike 16 = .ok (.aload_n 1, 1) := by decide +kernel
theorem dX1_becomeLike_17 : decode cX1_becomeLike 17 = .ok (.getfield 15, 3) := by decide +kernel
theorem dX1_becomeLike_20 : decode cX1_becomeLike 20 = .ok (.putfield 15, 3) := by decide +kernel
theorem dX1_becomeLike_23 : decode cX1_becomeLike 23 = .ok (.aload_n 0, 1) := by decide +kernel
theorem dX1_becomeLike_24 : decode cX1_becomeLike 24 = .ok (.aload_n 1, 1) := by decide +kernel
theorem dX1_becomeLike_25 : decode cX1_becomeLike 25 = .ok (.getfield 19, 3) := by decide +kernel
theorem dX1_becomeLike_28 : decode cX1_becomeLike 28 = .ok (.putfield 19, 3) := by decide +kernel
theorem dX1_becomeLike_31 : decode cX1_becomeLike 31 = .ok (.aload_n 0, 1) := by decide +kernel
theorem dX1_becomeLike_32 : decode cX1_becomeLike 32 = .ok (.aload_n 1, 1) := by decide +kernel
theorem dX1_becomeLike_33 : decode cX1_becomeLike 33 = .ok (.getfield 22, 3) := by decide +kernel
theorem dX1_becomeLike_36 : decode cX1_becomeLike 36 = .ok (.putfield 22, 3) := by decide +kernel
theorem dX1_becomeLike_39 : decode cX1_becomeLike 39 = .ok (.aload_n 0, 1) := by decide +kernel
theorem dX1_becomeLike_40 : decode cX1_becomeLike 40 = .ok (.aload_n 1, 1) := by decide +kernel
theorem dX1_becomeLike_41 : decode cX1_becomeLike 41 = .ok (.getfield 25, 3) := by decide +kernel
theorem dX1_becomeLike_44 : decode cX1_becomeLike 44 = .ok (.putfield 25, 3) := by decide +kernel
theorem dX1_becomeLike_47 : decode cX1_becomeLike 47 = .ok (.aload_n 0, 1) := by decide +kernel
theorem dX1_becomeLike_48 : decode cX1_becomeLike 48 = .ok (.aload_n 1, 1) := by decide +kernel
theorem dX1_becomeLike_49 : decode cX1_becomeLike 49 = .ok (.getfield 28, 3) := by decide +kernel
theorem dX1_becomeLike_52 : decode cX1_becomeLike 52 = .ok (.putfield 28, 3) := by decide +kernel
theorem dX1_becomeLike_55 : decode cX1_becomeLike 55 = .ok (.aload_n 0, 1) := by decide +kernel
theorem dX1_becomeLike_56 : decode cX1_becomeLike 56 = .ok (.aload_n 1, 1) := by decide +kernel
theorem dX1_becomeLike_57 : decode cX1_becomeLike 57 = .ok (.getfield 31, 3) := by decide +kernel
theorem dX1_becomeLike_60 : decode cX1_becomeLike 60 = .ok (.putfield 31, 3) := by decide +kernel
theorem dX1_becomeLike_63 : decode cX1_becomeLike 63 = .ok (.aload_n 0, 1) := by decide +kernel
theorem dX1_becomeLike_64 : decode cX1_becomeLike 64 = .ok (.aload_n 1, 1) := by decide +kernel
theorem dX1_becomeLike_65 : decode cX1_becomeLike 65 = .ok (.getfield 34, 3) := by decide +kernel
theorem dX1_becomeLike_68 : decode cX1_becomeLike 68 = .ok (.putfield 34, 3) := by decide +kernel
theorem dX1_becomeLike_71 : decode cX1_becomeLike 71 = .ok (.aload_n 1, 1) := by decide +kernel
theorem dX1_becomeLike_72 : decode cX1_becomeLike 72 = .ok (.getfield 37, 3) := by decide +kernel
theorem dX1_becomeLike_75 : decode cX1_becomeLike 75 = .ok (.iconst 0, 1) := by decide +kernel
theorem dX1_becomeLike_76 : decode cX1_becomeLike 76 = .ok (.aload_n 0, 1) := by decide +kernel
theorem dX1_becomeLike_77 : decode cX1_becomeLike 77 = .ok (.getfield 37, 3) := by decide +kernel
theorem dX1_becomeLike_80 : decode cX1_becomeLike 80 = .ok (.iconst 0, 1) := by decide +kernel
theorem dX1_becomeLike_81 : decode cX1_becomeLike 81 = .ok (.bipush 8, 2) := by decide +kernel
theorem dX1_becomeLike_83 : decode cX1_becomeLike 83 = .ok (.invokestatic 58, 3) := by decide +kernel
theorem dX1_becomeLike_86 : decode cX1_becomeLike 86 = .ok (.aload_n 1, 1) := by decide +kernel
theorem dX1_becomeLike_87 : decode cX1_becomeLike 87 = .ok (.getfield 40, 3) := by decide +kernel
theorem dX1_becomeLike_90 : decode cX1_becomeLike 90 = .ok (.iconst 0, 1) := by decide +kernel
theorem dX1_becomeLike_91 : decode cX1_becomeLike 91 = .ok (.aload_n 0, 1) := by decide +kernel
theorem dX1_becomeLike_92 : decode cX1_becomeLike 92 = .ok (.getfield 40, 3) := by decide +kernel
theorem dX1_becomeLike_95 : decode cX1_becomeLike 95 = .ok (.iconst 0, 1) := by decide +kernel
theorem dX1_becomeLike_96 : decode cX1_becomeLike 96 = .ok (.bipush 8, 2) := by decide +kernel
theorem dX1_becomeLike_98 : decode cX1_becomeLike 98 = .ok (.invokestatic 58, 3) := by decide +kernel
theorem dX1_becomeLike_101 : decode cX1_becomeLike 101 = .ok (.aload_n 1, 1) := by decide +kernel
theorem dX1_becomeLike_102 : decode cX1_becomeLike 102 = .ok (.getfield 43, 3) := by decide +kernel
theorem dX1_becomeLike_105 : decode cX1_becomeLike 105 = .ok (.iconst 0, 1) := by decide +kernel
theorem dX1_becomeLike_106 : decode cX1_becomeLike 106 = .ok (.aload_n 0, 1) := by decide +kernel
theorem dX1_becomeLike_107 : decode cX1_becomeLike 107 = .ok (.getfield 43, 3) := by decide +kernel
theorem dX1_becomeLike_110 : decode cX1_becomeLike 110 = .ok (.iconst 0, 1) := by decide +kernel
theorem dX1_becomeLike_111 : decode cX1_becomeLike 111 = .ok (.bipush 8, 2) := by decide +kernel
theorem dX1_becomeLike_113 : decode cX1_becomeLike 113 = .ok (.invokestatic 58, 3) := by decide +kernel
theorem dX1_becomeLike_116 : decode cX1_becomeLike 116 = .ok (.aload_n 1, 1) := by decide +kernel
theorem dX1_becomeLike_117 : decode cX1_becomeLike 117 = .ok (.getfield 46, 3) := by decide +kernel
theorem dX1_becomeLike_120 : decode cX1_becomeLike 120 = .ok (.iconst 0, 1) := by decide +kernel
theorem dX1_becomeLike_121 : decode cX1_becomeLike 121 = .ok (.aload_n 0, 1) := by decide +kernel
theorem dX1_becomeLike_122 : decode cX1_becomeLike 122 = .ok (.getfield 46, 3) := by decide +kernel
theorem dX1_becomeLike_125 : decode cX1_becomeLike 125 = .ok (.iconst 0, 1) := by decide +kernel
theorem dX1_becomeLike_126 : decode cX1_becomeLike 126 = .ok (.bipush 8, 2) := by decide +kernel
theorem dX1_becomeLike_128 : decode cX1_becomeLike 128 = .ok (.invokestatic 58, 3) := by decide +kernel
theorem dX1_becomeLike_131 : decode cX1_becomeLike 131 = .ok (.aload_n 1, 1) := by decide +kernel
theorem dX1_becomeLike_132 : decode cX1_becomeLike 132 = .ok (.getfield 49, 3) := by decide +kernel
theorem dX1_becomeLike_135 : decode cX1_becomeLike 135 = .ok (.iconst 0, 1) := by decide +kernel
theorem dX1_becomeLike_136 : decode cX1_becomeLike 136 = .ok (.aload_n 0, 1) := by decide +kernel
theorem dX1_becomeLike_137 : decode cX1_becomeLike 137 = .ok (.getfield 49, 3) := by decide +kernel
theorem dX1_becomeLike_140 : decode cX1_becomeLike 140 = .ok (.iconst 0, 1) := by decide +kernel
theorem dX1_becomeLike_141 : decode cX1_becomeLike 141 = .ok (.bipush 8, 2) := by decide +kernel
theorem dX1_becomeLike_143 : decode cX1_becomeLike 143 = .ok (.invokestatic 58, 3) := by decide +kernel
theorem dX1_becomeLike_146 : decode cX1_becomeLike 146 = .ok (.return_, 1) := by decide +kernel
theorem dX1_measure_0 : decode cX1_measure 0 = .ok (.iload_n 1, 1) := by decide +kernel
theorem dX1_measure_1 : decode cX1_measure 1 = .ok (.tableswitch 42 0 2 #[27, 32, 37], 27) := by decide +kernel
theorem dX1_measure_28 : decode cX1_measure 28 = .ok (.aload_n 0, 1) := by decide +kernel
theorem dX1_measure_29 : decode cX1_measure 29 = .ok (.getfield 19, 3) := by decide +kernel
theorem dX1_measure_32 : decode cX1_measure 32 = .ok (.ireturn, 1) := by decide +kernel
theorem dX1_measure_33 : decode cX1_measure 33 = .ok (.aload_n 0, 1) := by decide +kernel
theorem dX1_measure_34 : decode cX1_measure 34 = .ok (.getfield 25, 3) := by decide +kernel
theorem dX1_measure_37 : decode cX1_measure 37 = .ok (.ireturn, 1) := by decide +kernel
theorem dX1_measure_38 : decode cX1_measure 38 = .ok (.aload_n 0, 1) := by decide +kernel
theorem dX1_measure_39 : decode cX1_measure 39 = .ok (.getfield 28, 3) := by decide +kernel
theorem dX1_measure_42 : decode cX1_measure 42 = .ok (.ireturn, 1) := by decide +kernel
theorem dX1_measure_43 : decode cX1_measure 43 = .ok (.aload_n 0, 1) := by decide +kernel
theorem dX1_measure_44 : decode cX1_measure 44 = .ok (.getfield 22, 3) := by decide +kernel
theorem dX1_measure_47 : decode cX1_measure 47 = .ok (.ireturn, 1) := by decide +kernel
theorem dX1_putMeasure_0 : decode cX1_putMeasure 0 = .ok (.iload_n 1, 1) := by decide +kernel
theorem dX1_putMeasure_1 : decode cX1_putMeasure 1 = .ok (.tableswitch 63 0 3 #[31, 39, 47, 55], 31) := by decide +kernel
theorem dX1_putMeasure_32 : decode cX1_putMeasure 32 = .ok (.aload_n 0, 1) := by decide +kernel
theorem dX1_putMeasure_33 : decode cX1_putMeasure 33 = .ok (.iload_n 2, 1) := by decide +kernel
theorem dX1_putMeasure_34 : decode cX1_putMeasure 34 = .ok (.putfield 19, 3) := by decide +kernel
theorem dX1_putMeasure_37 : decode cX1_putMeasure 37 = .ok (.goto 27, 3) := by decide +kernel
theorem dX1_putMeasure_40 : decode cX1_putMeasure 40 = .ok (.aload_n 0, 1) := by decide +kernel
theorem dX1_putMeasure_41 : decode cX1_putMeasure 41 = .ok (.iload_n 2, 1) := by decide +kernel
theorem dX1_putMeasure_42 : decode cX1_putMeasure 42 = .ok (.putfield 25, 3) := by decide +kernel
theorem dX1_putMeasure_45 : decode cX1_putMeasure 45 = .ok (.goto 19, 3) := by decide +kernel
theorem dX1_putMeasure_48 : decode cX1_putMeasure 48 = .ok (.aload_n 0, 1) := by decide +kernel
theorem dX1_putMeasure_49 : decode cX1_putMeasure 49 = .ok (.iload_n 2, 1) := by decide +kernel
theorem dX1_putMeasure_50 : decode cX1_putMeasure 50 = .ok (.putfield 28, 3) := by decide +kernel
theorem dX1_putMeasure_53 : decode cX1_putMeasure 53 = .ok (.goto 11, 3) := by decide +kernel
theorem dX1_putMeasure_56 : decode cX1_putMeasure 56 = .ok (.aload_n 0, 1) := by decide +kernel
theorem dX1_putMeasure_57 : decode cX1_putMeasure 57 = .ok (.iload_n 2, 1) := by decide +kernel
theorem dX1_putMeasure_58 : decode cX1_putMeasure 58 = .ok (.putfield 22, 3) := by decide +kernel
theorem dX1_putMeasure_61 : decode cX1_putMeasure 61 = .ok (.goto 3, 3) := by decide +kernel
theorem dX1_putMeasure_64 : decode cX1_putMeasure 64 = .ok (.return_, 1) := by decide +kernel
theorem dX1_seaOn_0 : decode cX1_seaOn 0 = .ok (.aload_n 0, 1) := by decide +kernel
theorem dX1_seaOn_1 : decode cX1_seaOn 1 = .ok (.getfield 9, 3) := by decide +kernel
theorem dX1_seaOn_4 : decode cX1_seaOn 4 = .ok (.iload_n 1, 1) := by decide +kernel
theorem dX1_seaOn_5 : decode cX1_seaOn 5 = .ok (.bipush 28, 2) := by decide +kernel
theorem dX1_seaOn_7 : decode cX1_seaOn 7 = .ok (.invokestatic 64, 3) := by decide +kernel
theorem dX1_seaOn_10 : decode cX1_seaOn 10 = .ok (.iaload, 1) := by decide +kernel
theorem dX1_seaOn_11 : decode cX1_seaOn 11 = .ok (.ireturn, 1) := by decide +kernel
theorem dX1_hasGaleOn_0 : decode cX1_hasGaleOn 0 = .ok (.aload_n 0, 1) := by decide +kernel
theorem dX1_hasGaleOn_1 : decode cX1_hasGaleOn 1 = .ok (.iload_n 1, 1) := by decide +kernel
theorem dX1_hasGaleOn_2 : decode cX1_hasGaleOn 2 = .ok (.invokevirtual 70, 3) := by decide +kernel
theorem dX1_hasGaleOn_5 : decode cX1_hasGaleOn 5 = .ok (.aload_n 0, 1) := by decide +kernel
theorem dX1_hasGaleOn_6 : decode cX1_hasGaleOn 6 = .ok (.getfield 19, 3) := by decide +kernel
theorem dX1_hasGaleOn_9 : decode cX1_hasGaleOn 9 = .ok (.if_icmp .lt 7, 3) := by decide +kernel
theorem dX1_hasGaleOn_12 : decode cX1_hasGaleOn 12 = .ok (.iconst 1, 1) := by decide +kernel
theorem dX1_hasGaleOn_13 : decode cX1_hasGaleOn 13 = .ok (.goto 4, 3) := by decide +kernel
theorem dX1_hasGaleOn_16 : decode cX1_hasGaleOn 16 = .ok (.iconst 0, 1) := by decide +kernel
theorem dX1_hasGaleOn_17 : decode cX1_hasGaleOn 17 = .ok (.ireturn, 1) := by decide +kernel
theorem dX1_secondsOn_0 : decode cX1_secondsOn 0 = .ok (.aload_n 0, 1) := by decide +kernel
theorem dX1_secondsOn_1 : decode cX1_secondsOn 1 = .ok (.iload_n 1, 1) := by decide +kernel
theorem dX1_secondsOn_2 : decode cX1_secondsOn 2 = .ok (.invokevirtual 70, 3) := by decide +kernel
theorem dX1_secondsOn_5 : decode cX1_secondsOn 5 = .ok (.istore_n 2, 1) := by decide +kernel
theorem dX1_secondsOn_6 : decode cX1_secondsOn 6 = .ok (.iload_n 2, 1) := by decide +kernel
theorem dX1_secondsOn_7 : decode cX1_secondsOn 7 = .ok (.aload_n 0, 1) := by decide +kernel
theorem dX1_secondsOn_8 : decode cX1_secondsOn 8 = .ok (.getfield 19, 3) := by decide +kernel
theorem dX1_secondsOn_11 : decode cX1_secondsOn 11 = .ok (.if_icmp .lt 14, 3) := by decide +kernel
theorem dX1_secondsOn_14 : decode cX1_secondsOn 14 = .ok (.iload_n 2, 1) := by decide +kernel
theorem dX1_secondsOn_15 : decode cX1_secondsOn 15 = .ok (.aload_n 0, 1) := by decide +kernel
theorem dX1_secondsOn_16 : decode cX1_secondsOn 16 = .ok (.getfield 19, 3) := by decide +kernel
theorem dX1_secondsOn_19 : decode cX1_secondsOn 19 = .ok (.isub, 1) := by decide +kernel
theorem dX1_secondsOn_20 : decode cX1_secondsOn 20 = .ok (.iconst 1, 1) := by decide +kernel
theorem dX1_secondsOn_21 : decode cX1_secondsOn 21 = .ok (.iadd, 1) := by decide +kernel
theorem dX1_secondsOn_22 : decode cX1_secondsOn 22 = .ok (.goto 4, 3) := by decide +kernel
theorem dX1_secondsOn_25 : decode cX1_secondsOn 25 = .ok (.iconst 0, 1) := by decide +kernel
theorem dX1_secondsOn_26 : decode cX1_secondsOn 26 = .ok (.ireturn, 1) := by decide +kernel
theorem dX1_countGaleDays_0 : decode cX1_countGaleDays 0 = .ok (.iconst 0, 1) := by decide +kernel
theorem dX1_countGaleDays_1 : decode cX1_countGaleDays 1 = .ok (.istore_n 1, 1) := by decide +kernel
theorem dX1_countGaleDays_2 : decode cX1_countGaleDays 2 = .ok (.iconst 0, 1) := by decide +kernel
theorem dX1_countGaleDays_3 : decode cX1_countGaleDays 3 = .ok (.istore_n 2, 1) := by decide +kernel
theorem dX1_countGaleDays_4 : decode cX1_countGaleDays 4 = .ok (.iload_n 2, 1) := by decide +kernel
theorem dX1_countGaleDays_5 : decode cX1_countGaleDays 5 = .ok (.bipush 28, 2) := by decide +kernel
theorem dX1_countGaleDays_7 : decode cX1_countGaleDays 7 = .ok (.if_icmp .ge 20, 3) := by decide +kernel
theorem dX1_countGaleDays_10 : decode cX1_countGaleDays 10 = .ok (.aload_n 0, 1) := by decide +kernel
theorem dX1_countGaleDays_11 : decode cX1_countGaleDays 11 = .ok (.iload_n 2, 1) := by decide +kernel
theorem dX1_countGaleDays_12 : decode cX1_countGaleDays 12 = .ok (.invokevirtual 74, 3) := by decide +kernel
theorem dX1_countGaleDays_15 : decode cX1_countGaleDays 15 = .ok (.ifCond .eq 6, 3) := by decide +kernel
theorem dX1_countGaleDays_18 : decode cX1_countGaleDays 18 = .ok (.iinc 1 1, 3) := by decide +kernel
theorem dX1_countGaleDays_21 : decode cX1_countGaleDays 21 = .ok (.iinc 2 1, 3) := by decide +kernel
theorem dX1_countGaleDays_24 : decode cX1_countGaleDays 24 = .ok (.goto (-20), 3) := by decide +kernel
theorem dX1_countGaleDays_27 : decode cX1_countGaleDays 27 = .ok (.iload_n 1, 1) := by decide +kernel
theorem dX1_countGaleDays_28 : decode cX1_countGaleDays 28 = .ok (.ireturn, 1) := by decide +kernel
theorem dX1_isFull_0 : decode cX1_isFull 0 = .ok (.aload_n 0, 1) := by decide +kernel
theorem dX1_isFull_1 : decode cX1_isFull 1 = .ok (.getfield 34, 3) := by decide +kernel
theorem dX1_isFull_4 : decode cX1_isFull 4 = .ok (.bipush 8, 2) := by decide +kernel
theorem dX1_isFull_6 : decode cX1_isFull 6 = .ok (.if_icmp .lt 7, 3) := by decide +kernel
theorem dX1_isFull_9 : decode cX1_isFull 9 = .ok (.iconst 1, 1) := by decide +kernel
theorem dX1_isFull_10 : decode cX1_isFull 10 = .ok (.goto 4, 3) := by decide +kernel
theorem dX1_isFull_13 : decode cX1_isFull 13 = .ok (.iconst 0, 1) := by decide +kernel
theorem dX1_isFull_14 : decode cX1_isFull 14 = .ok (.ireturn, 1) := by decide +kernel
theorem dX1_hasKeeper_0 : decode cX1_hasKeeper 0 = .ok (.iload_n 1, 1) := by decide +kernel
theorem dX1_hasKeeper_1 : decode cX1_hasKeeper 1 = .ok (.iconst 0, 1) := by decide +kernel
theorem dX1_hasKeeper_2 : decode cX1_hasKeeper 2 = .ok (.aload_n 0, 1) := by decide +kernel
theorem dX1_hasKeeper_3 : decode cX1_hasKeeper 3 = .ok (.getfield 34, 3) := by decide +kernel
theorem dX1_hasKeeper_6 : decode cX1_hasKeeper 6 = .ok (.iconst 1, 1) := by decide +kernel
theorem dX1_hasKeeper_7 : decode cX1_hasKeeper 7 = .ok (.isub, 1) := by decide +kernel
theorem dX1_hasKeeper_8 : decode cX1_hasKeeper 8 = .ok (.invokestatic 78, 3) := by decide +kernel
theorem dX1_hasKeeper_11 : decode cX1_hasKeeper 11 = .ok (.ireturn, 1) := by decide +kernel
theorem dX1_addKeeper_0 : decode cX1_addKeeper 0 = .ok (.aload_n 0, 1) := by decide +kernel
theorem dX1_addKeeper_1 : decode cX1_addKeeper 1 = .ok (.invokevirtual 82, 3) := by decide +kernel
theorem dX1_addKeeper_4 : decode cX1_addKeeper 4 = .ok (.ifCond .eq 5, 3) := by decide +kernel
theorem dX1_addKeeper_7 : decode cX1_addKeeper 7 = .ok (.iconst (-1), 1) := by decide +kernel
theorem dX1_addKeeper_8 : decode cX1_addKeeper 8 = .ok (.ireturn, 1) := by decide +kernel
theorem dX1_addKeeper_9 : decode cX1_addKeeper 9 = .ok (.aload_n 0, 1) := by decide +kernel
theorem dX1_addKeeper_10 : decode cX1_addKeeper 10 = .ok (.getfield 34, 3) := by decide +kernel
theorem dX1_addKeeper_13 : decode cX1_addKeeper 13 = .ok (.istore_n 2, 1) := by decide +kernel
theorem dX1_addKeeper_14 : decode cX1_addKeeper 14 = .ok (.aload_n 0, 1) := by decide +kernel
theorem dX1_addKeeper_15 : decode cX1_addKeeper 15 = .ok (.getfield 37, 3) := by decide +kernel
theorem dX1_addKeeper_18 : decode cX1_addKeeper 18 = .ok (.iload_n 2, 1) := by decide +kernel
theorem dX1_addKeeper_19 : decode cX1_addKeeper 19 = .ok (.iload_n 1, 1) := by decide +kernel
theorem dX1_addKeeper_20 : decode cX1_addKeeper 20 = .ok (.iastore, 1) := by decide +kernel
theorem dX1_addKeeper_21 : decode cX1_addKeeper 21 = .ok (.aload_n 0, 1) := by decide +kernel
theorem dX1_addKeeper_22 : decode cX1_addKeeper 22 = .ok (.getfield 40, 3) := by decide +kernel
theorem dX1_addKeeper_25 : decode cX1_addKeeper 25 = .ok (.iload_n 2, 1) := by decide +kernel
theorem dX1_addKeeper_26 : decode cX1_addKeeper 26 = .ok (.iconst 0, 1) := by decide +kernel
theorem dX1_addKeeper_27 : decode cX1_addKeeper 27 = .ok (.iastore, 1) := by decide +kernel
theorem dX1_addKeeper_28 : decode cX1_addKeeper 28 = .ok (.aload_n 0, 1) := by decide +kernel
theorem dX1_addKeeper_29 : decode cX1_addKeeper 29 = .ok (.getfield 43, 3) := by decide +kernel
theorem dX1_addKeeper_32 : decode cX1_addKeeper 32 = .ok (.iload_n 2, 1) := by decide +kernel
theorem dX1_addKeeper_33 : decode cX1_addKeeper 33 = .ok (.aload_n 0, 1) := by decide +kernel
theorem dX1_addKeeper_34 : decode cX1_addKeeper 34 = .ok (.getfield 15, 3) := by decide +kernel
theorem dX1_addKeeper_37 : decode cX1_addKeeper 37 = .ok (.iastore, 1) := by decide +kernel
theorem dX1_addKeeper_38 : decode cX1_addKeeper 38 = .ok (.aload_n 0, 1) := by decide +kernel
theorem dX1_addKeeper_39 : decode cX1_addKeeper 39 = .ok (.getfield 46, 3) := by decide +kernel
theorem dX1_addKeeper_42 : decode cX1_addKeeper 42 = .ok (.iload_n 2, 1) := by decide +kernel
theorem dX1_addKeeper_43 : decode cX1_addKeeper 43 = .ok (.iconst 0, 1) := by decide +kernel
theorem dX1_addKeeper_44 : decode cX1_addKeeper 44 = .ok (.iastore, 1) := by decide +kernel
theorem dX1_addKeeper_45 : decode cX1_addKeeper 45 = .ok (.aload_n 0, 1) := by decide +kernel
theorem dX1_addKeeper_46 : decode cX1_addKeeper 46 = .ok (.getfield 49, 3) := by decide +kernel
theorem dX1_addKeeper_49 : decode cX1_addKeeper 49 = .ok (.iload_n 2, 1) := by decide +kernel
theorem dX1_addKeeper_50 : decode cX1_addKeeper 50 = .ok (.iconst 0, 1) := by decide +kernel
theorem dX1_addKeeper_51 : decode cX1_addKeeper 51 = .ok (.iastore, 1) := by decide +kernel
theorem dX1_addKeeper_52 : decode cX1_addKeeper 52 = .ok (.aload_n 0, 1) := by decide +kernel
theorem dX1_addKeeper_53 : decode cX1_addKeeper 53 = .ok (.dup, 1) := by decide +kernel
theorem dX1_addKeeper_54 : decode cX1_addKeeper 54 = .ok (.getfield 34, 3) := by decide +kernel
theorem dX1_addKeeper_57 : decode cX1_addKeeper 57 = .ok (.iconst 1, 1) := by decide +kernel
theorem dX1_addKeeper_58 : decode cX1_addKeeper 58 = .ok (.iadd, 1) := by decide +kernel
theorem dX1_addKeeper_59 : decode cX1_addKeeper 59 = .ok (.putfield 34, 3) := by decide +kernel
theorem dX1_addKeeper_62 : decode cX1_addKeeper 62 = .ok (.iload_n 2, 1) := by decide +kernel
theorem dX1_addKeeper_63 : decode cX1_addKeeper 63 = .ok (.ireturn, 1) := by decide +kernel
theorem dX1_putStand_0 : decode cX1_putStand 0 = .ok (.aload_n 0, 1) := by decide +kernel
theorem dX1_putStand_1 : decode cX1_putStand 1 = .ok (.getfield 40, 3) := by decide +kernel
theorem dX1_putStand_4 : decode cX1_putStand 4 = .ok (.iload_n 1, 1) := by decide +kernel
theorem dX1_putStand_5 : decode cX1_putStand 5 = .ok (.iaload, 1) := by decide +kernel
theorem dX1_putStand_6 : decode cX1_putStand 6 = .ok (.istore_n 3, 1) := by decide +kernel
theorem dX1_putStand_7 : decode cX1_putStand 7 = .ok (.aload_n 0, 1) := by decide +kernel
theorem dX1_putStand_8 : decode cX1_putStand 8 = .ok (.getfield 40, 3) := by decide +kernel
theorem dX1_putStand_11 : decode cX1_putStand 11 = .ok (.iload_n 1, 1) := by decide +kernel
theorem dX1_putStand_12 : decode cX1_putStand 12 = .ok (.iload_n 2, 1) := by decide +kernel
theorem dX1_putStand_13 : decode cX1_putStand 13 = .ok (.iastore, 1) := by decide +kernel
theorem dX1_putStand_14 : decode cX1_putStand 14 = .ok (.aload_n 0, 1) := by decide +kernel
theorem dX1_putStand_15 : decode cX1_putStand 15 = .ok (.getfield 43, 3) := by decide +kernel
theorem dX1_putStand_18 : decode cX1_putStand 18 = .ok (.iload_n 1, 1) := by decide +kernel
theorem dX1_putStand_19 : decode cX1_putStand 19 = .ok (.aload_n 0, 1) := by decide +kernel
theorem dX1_putStand_20 : decode cX1_putStand 20 = .ok (.getfield 15, 3) := by decide +kernel
theorem dX1_putStand_23 : decode cX1_putStand 23 = .ok (.iastore, 1) := by decide +kernel
theorem dX1_putStand_24 : decode cX1_putStand 24 = .ok (.iload_n 3, 1) := by decide +kernel
theorem dX1_putStand_25 : decode cX1_putStand 25 = .ok (.ireturn, 1) := by decide +kernel
theorem dX1_putWords_0 : decode cX1_putWords 0 = .ok (.aload_n 0, 1) := by decide +kernel
theorem dX1_putWords_1 : decode cX1_putWords 1 = .ok (.getfield 46, 3) := by decide +kernel
theorem dX1_putWords_4 : decode cX1_putWords 4 = .ok (.iload_n 1, 1) := by decide +kernel
theorem dX1_putWords_5 : decode cX1_putWords 5 = .ok (.iaload, 1) := by decide +kernel
theorem dX1_putWords_6 : decode cX1_putWords 6 = .ok (.istore_n 3, 1) := by decide +kernel
theorem dX1_putWords_7 : decode cX1_putWords 7 = .ok (.aload_n 0, 1) := by decide +kernel
theorem dX1_putWords_8 : decode cX1_putWords 8 = .ok (.getfield 46, 3) := by decide +kernel
theorem dX1_putWords_11 : decode cX1_putWords 11 = .ok (.iload_n 1, 1) := by decide +kernel
theorem dX1_putWords_12 : decode cX1_putWords 12 = .ok (.iload_n 2, 1) := by decide +kernel
theorem dX1_putWords_13 : decode cX1_putWords 13 = .ok (.iastore, 1) := by decide +kernel
theorem dX1_putWords_14 : decode cX1_putWords 14 = .ok (.iload_n 3, 1) := by decide +kernel
theorem dX1_putWords_15 : decode cX1_putWords 15 = .ok (.ireturn, 1) := by decide +kernel
theorem dX1_putMet_0 : decode cX1_putMet 0 = .ok (.aload_n 0, 1) := by decide +kernel
theorem dX1_putMet_1 : decode cX1_putMet 1 = .ok (.getfield 49, 3) := by decide +kernel
theorem dX1_putMet_4 : decode cX1_putMet 4 = .ok (.iload_n 1, 1) := by decide +kernel
theorem dX1_putMet_5 : decode cX1_putMet 5 = .ok (.iaload, 1) := by decide +kernel
theorem dX1_putMet_6 : decode cX1_putMet 6 = .ok (.istore_n 3, 1) := by decide +kernel
theorem dX1_putMet_7 : decode cX1_putMet 7 = .ok (.aload_n 0, 1) := by decide +kernel
theorem dX1_putMet_8 : decode cX1_putMet 8 = .ok (.getfield 49, 3) := by decide +kernel
theorem dX1_putMet_11 : decode cX1_putMet 11 = .ok (.iload_n 1, 1) := by decide +kernel
theorem dX1_putMet_12 : decode cX1_putMet 12 = .ok (.iload_n 2, 1) := by decide +kernel
theorem dX1_putMet_13 : decode cX1_putMet 13 = .ok (.iastore, 1) := by decide +kernel
theorem dX1_putMet_14 : decode cX1_putMet 14 = .ok (.iload_n 3, 1) := by decide +kernel
theorem dX1_putMet_15 : decode cX1_putMet 15 = .ok (.ireturn, 1) := by decide +kernel
theorem dX1_setOfOn_0 : decode cX1_setOfOn 0 = .ok (.iconst 0, 1) := by decide +kernel
theorem dX1_setOfOn_1 : decode cX1_setOfOn 1 = .ok (.istore_n 1, 1) := by decide +kernel
theorem dX1_setOfOn_2 : decode cX1_setOfOn 2 = .ok (.iconst 0, 1) := by decide +kernel
theorem dX1_setOfOn_3 : decode cX1_setOfOn 3 = .ok (.istore_n 2, 1) := by decide +kernel
theorem dX1_setOfOn_4 : decode cX1_setOfOn 4 = .ok (.iload_n 2, 1) := by decide +kernel
theorem dX1_setOfOn_5 : decode cX1_setOfOn 5 = .ok (.aload_n 0, 1) := by decide +kernel
theorem dX1_setOfOn_6 : decode cX1_setOfOn 6 = .ok (.getfield 34, 3) := by decide +kernel
theorem dX1_setOfOn_9 : decode cX1_setOfOn 9 = .ok (.if_icmp .ge 25, 3) := by decide +kernel
theorem dX1_setOfOn_12 : decode cX1_setOfOn 12 = .ok (.aload_n 0, 1) := by decide +kernel
theorem dX1_setOfOn_13 : decode cX1_setOfOn 13 = .ok (.getfield 40, 3) := by decide +kernel
theorem dX1_setOfOn_16 : decode cX1_setOfOn 16 = .ok (.iload_n 2, 1) := by decide +kernel
theorem dX1_setOfOn_17 : decode cX1_setOfOn 17 = .ok (.iaload, 1) := by decide +kernel
theorem dX1_setOfOn_18 : decode cX1_setOfOn 18 = .ok (.iconst 1, 1) := by decide +kernel
theorem dX1_setOfOn_19 : decode cX1_setOfOn 19 = .ok (.if_icmp .ne 9, 3) := by decide +kernel
theorem dX1_setOfOn_22 : decode cX1_setOfOn 22 = .ok (.iload_n 1, 1) := by decide +kernel
theorem dX1_setOfOn_23 : decode cX1_setOfOn 23 = .ok (.iconst 1, 1) := by decide +kernel
theorem dX1_setOfOn_24 : decode cX1_setOfOn 24 = .ok (.iload_n 2, 1) := by decide +kernel
theorem dX1_setOfOn_25 : decode cX1_setOfOn 25 = .ok (.ishl, 1) := by decide +kernel
theorem dX1_setOfOn_26 : decode cX1_setOfOn 26 = .ok (.ior, 1) := by decide +kernel
theorem dX1_setOfOn_27 : decode cX1_setOfOn 27 = .ok (.istore_n 1, 1) := by decide +kernel
theorem dX1_setOfOn_28 : decode cX1_setOfOn 28 = .ok (.iinc 2 1, 3) := by decide +kernel
theorem dX1_setOfOn_31 : decode cX1_setOfOn 31 = .ok (.goto (-27), 3) := by decide +kernel
theorem dX1_setOfOn_34 : decode cX1_setOfOn 34 = .ok (.iload_n 1, 1) := by decide +kernel
theorem dX1_setOfOn_35 : decode cX1_setOfOn 35 = .ok (.ireturn, 1) := by decide +kernel
theorem dX1_countStanding_0 : decode cX1_countStanding 0 = .ok (.iconst 0, 1) := by decide +kernel
theorem dX1_countStanding_1 : decode cX1_countStanding 1 = .ok (.istore_n 2, 1) := by decide +kernel
theorem dX1_countStanding_2 : decode cX1_countStanding 2 = .ok (.iconst 0, 1) := by decide +kernel
theorem dX1_countStanding_3 : decode cX1_countStanding 3 = .ok (.istore_n 3, 1) := by decide +kernel
theorem dX1_countStanding_4 : decode cX1_countStanding 4 = .ok (.iload_n 3, 1) := by decide +kernel
theorem dX1_countStanding_5 : decode cX1_countStanding 5 = .ok (.aload_n 0, 1) := by decide +kernel
theorem dX1_countStanding_6 : decode cX1_countStanding 6 = .ok (.getfield 34, 3) := by decide +kernel
theorem dX1_countStanding_9 : decode cX1_countStanding 9 = .ok (.if_icmp .ge 22, 3) := by decide +kernel
theorem dX1_countStanding_12 : decode cX1_countStanding 12 = .ok (.aload_n 0, 1) := by decide +kernel
theorem dX1_countStanding_13 : decode cX1_countStanding 13 = .ok (.getfield 40, 3) := by decide +kernel
theorem dX1_countStanding_16 : decode cX1_countStanding 16 = .ok (.iload_n 3, 1) := by decide +kernel
theorem dX1_countStanding_17 : decode cX1_countStanding 17 = .ok (.iaload, 1) := by decide +kernel
theorem dX1_countStanding_18 : decode cX1_countStanding 18 = .ok (.iload_n 1, 1) := by decide +kernel
theorem dX1_countStanding_19 : decode cX1_countStanding 19 = .ok (.if_icmp .ne 6, 3) := by decide +kernel
theorem dX1_countStanding_22 : decode cX1_countStanding 22 = .ok (.iinc 2 1, 3) := by decide +kernel
theorem dX1_countStanding_25 : decode cX1_countStanding 25 = .ok (.iinc 3 1, 3) := by decide +kernel
theorem dX1_countStanding_28 : decode cX1_countStanding 28 = .ok (.goto (-24), 3) := by decide +kernel
theorem dX1_countStanding_31 : decode cX1_countStanding 31 = .ok (.iload_n 2, 1) := by decide +kernel
theorem dX1_countStanding_32 : decode cX1_countStanding 32 = .ok (.ireturn, 1) := by decide +kernel
theorem dX1_knowsWord_0 : decode cX1_knowsWord 0 = .ok (.aload_n 0, 1) := by decide +kernel
theorem dX1_knowsWord_1 : decode cX1_knowsWord 1 = .ok (.getfield 46, 3) := by decide +kernel
theorem dX1_knowsWord_4 : decode cX1_knowsWord 4 = .ok (.iload_n 1, 1) := by decide +kernel
theorem dX1_knowsWord_5 : decode cX1_knowsWord 5 = .ok (.iaload, 1) := by decide +kernel
theorem dX1_knowsWord_6 : decode cX1_knowsWord 6 = .ok (.iload_n 2, 1) := by decide +kernel
theorem dX1_knowsWord_7 : decode cX1_knowsWord 7 = .ok (.ishr, 1) := by decide +kernel
theorem dX1_knowsWord_8 : decode cX1_knowsWord 8 = .ok (.iconst 1, 1) := by decide +kernel
theorem dX1_knowsWord_9 : decode cX1_knowsWord 9 = .ok (.iand, 1) := by decide +kernel
theorem dX1_knowsWord_10 : decode cX1_knowsWord 10 = .ok (.iconst 1, 1) := by decide +kernel
theorem dX1_knowsWord_11 : decode cX1_knowsWord 11 = .ok (.if_icmp .ne 7, 3) := by decide +kernel
theorem dX1_knowsWord_14 : decode cX1_knowsWord 14 = .ok (.iconst 1, 1) := by decide +kernel
theorem dX1_knowsWord_15 : decode cX1_knowsWord 15 = .ok (.goto 4, 3) := by decide +kernel
theorem dX1_knowsWord_18 : decode cX1_knowsWord 18 = .ok (.iconst 0, 1) := by decide +kernel
theorem dX1_knowsWord_19 : decode cX1_knowsWord 19 = .ok (.ireturn, 1) := by decide +kernel
theorem dX1_countKnowing_0 : decode cX1_countKnowing 0 = .ok (.iconst 0, 1) := by decide +kernel
theorem dX1_countKnowing_1 : decode cX1_countKnowing 1 = .ok (.istore_n 2, 1) := by decide +kernel
theorem dX1_countKnowing_2 : decode cX1_countKnowing 2 = .ok (.iconst 0, 1) := by decide +kernel
theorem dX1_countKnowing_3 : decode cX1_countKnowing 3 = .ok (.istore_n 3, 1) := by decide +kernel
theorem dX1_countKnowing_4 : decode cX1_countKnowing 4 = .ok (.iload_n 3, 1) := by decide +kernel
theorem dX1_countKnowing_5 : decode cX1_countKnowing 5 = .ok (.aload_n 0, 1) := by decide +kernel
theorem dX1_countKnowing_6 : decode cX1_countKnowing 6 = .ok (.getfield 34, 3) := by decide +kernel
theorem dX1_countKnowing_9 : decode cX1_countKnowing 9 = .ok (.if_icmp .ge 21, 3) := by decide +kernel
theorem dX1_countKnowing_12 : decode cX1_countKnowing 12 = .ok (.aload_n 0, 1) := by decide +kernel
theorem dX1_countKnowing_13 : decode cX1_countKnowing 13 = .ok (.iload_n 3, 1) := by decide +kernel
theorem dX1_countKnowing_14 : decode cX1_countKnowing 14 = .ok (.iload_n 1, 1) := by decide +kernel
theorem dX1_countKnowing_15 : decode cX1_countKnowing 15 = .ok (.invokevirtual 86, 3) := by decide +kernel
theorem dX1_countKnowing_18 : decode cX1_countKnowing 18 = .ok (.ifCond .eq 6, 3) := by decide +kernel
theorem dX1_countKnowing_21 : decode cX1_countKnowing 21 = .ok (.iinc 2 1, 3) := by decide +kernel
theorem dX1_countKnowing_24 : decode cX1_countKnowing 24 = .ok (.iinc 3 1, 3) := by decide +kernel
theorem dX1_countKnowing_27 : decode cX1_countKnowing 27 = .ok (.goto (-23), 3) := by decide +kernel
theorem dX1_countKnowing_30 : decode cX1_countKnowing 30 = .ok (.iload_n 2, 1) := by decide +kernel
theorem dX1_countKnowing_31 : decode cX1_countKnowing 31 = .ok (.ireturn, 1) := by decide +kernel
theorem dX1_wordsTogether_0 : decode cX1_wordsTogether 0 = .ok (.iconst 0, 1) := by decide +kernel
theorem dX1_wordsTogether_1 : decode cX1_wordsTogether 1 = .ok (.istore_n 1, 1) := by decide +kernel
theorem dX1_wordsTogether_2 : decode cX1_wordsTogether 2 = .ok (.iconst 0, 1) := by decide +kernel
theorem dX1_wordsTogether_3 : decode cX1_wordsTogether 3 = .ok (.istore_n 2, 1) := by decide +kernel
theorem dX1_wordsTogether_4 : decode cX1_wordsTogether 4 = .ok (.iload_n 2, 1) := by decide +kernel
theorem dX1_wordsTogether_5 : decode cX1_wordsTogether 5 = .ok (.aload_n 0, 1) := by decide +kernel
theorem dX1_wordsTogether_6 : decode cX1_wordsTogether 6 = .ok (.getfield 34, 3) := by decide +kernel
theorem dX1_wordsTogether_9 : decode cX1_wordsTogether 9 = .ok (.if_icmp .ge 21, 3) := by decide +kernel
theorem dX1_wordsTogether_12 : decode cX1_wordsTogether 12 = .ok (.iload_n 1, 1) := by decide +kernel
theorem dX1_wordsTogether_13 : decode cX1_wordsTogether 13 = .ok (.aload_n 0, 1) := by decide +kernel
theorem dX1_wordsTogether_14 : decode cX1_wordsTogether 14 = .ok (.getfield 46, 3) := by decide +kernel
theorem dX1_wordsTogether_17 : decode cX1_wordsTogether 17 = .ok (.iload_n 2, 1) := by decide +kernel
theorem dX1_wordsTogether_18 : decode cX1_wordsTogether 18 = .ok (.iaload, 1) := by decide +kernel
theorem dX1_wordsTogether_19 : decode cX1_wordsTogether 19 = .ok (.invokestatic 90, 3) := by decide +kernel
theorem dX1_wordsTogether_22 : decode cX1_wordsTogether 22 = .ok (.iadd, 1) := by decide +kernel
theorem dX1_wordsTogether_23 : decode cX1_wordsTogether 23 = .ok (.istore_n 1, 1) := by decide +kernel
theorem dX1_wordsTogether_24 : decode cX1_wordsTogether 24 = .ok (.iinc 2 1, 3) := by decide +kernel
theorem dX1_wordsTogether_27 : decode cX1_wordsTogether 27 = .ok (.goto (-23), 3) := by decide +kernel
theorem dX1_wordsTogether_30 : decode cX1_wordsTogether 30 = .ok (.iload_n 1, 1) := by decide +kernel
theorem dX1_wordsTogether_31 : decode cX1_wordsTogether 31 = .ok (.ireturn, 1) := by decide +kernel
theorem dX1_usesOf_0 : decode cX1_usesOf 0 = .ok (.aload_n 0, 1) := by decide +kernel
theorem dX1_usesOf_1 : decode cX1_usesOf 1 = .ok (.getfield 37, 3) := by decide +kernel
theorem dX1_usesOf_4 : decode cX1_usesOf 4 = .ok (.iload_n 1, 1) := by decide +kernel
theorem dX1_usesOf_5 : decode cX1_usesOf 5 = .ok (.iaload, 1) := by decide +kernel
theorem dX1_usesOf_6 : decode cX1_usesOf 6 = .ok (.aload_n 0, 1) := by decide +kernel
theorem dX1_usesOf_7 : decode cX1_usesOf 7 = .ok (.iload_n 1, 1) := by decide +kernel
theorem dX1_usesOf_8 : decode cX1_usesOf 8 = .ok (.invokevirtual 95, 3) := by decide +kernel
theorem dX1_usesOf_11 : decode cX1_usesOf 11 = .ok (.invokestatic 98, 3) := by decide +kernel
theorem dX1_usesOf_14 : decode cX1_usesOf 14 = .ok (.ireturn, 1) := by decide +kernel
theorem dX1_isBesideBrother_0 : decode cX1_isBesideBrother 0 = .ok (.iconst 0, 1) := by decide +kernel
theorem dX1_isBesideBrother_1 : decode cX1_isBesideBrother 1 = .ok (.istore_n 2, 1) := by decide +kernel
theorem dX1_isBesideBrother_2 : decode cX1_isBesideBrother 2 = .ok (.iload_n 2, 1) := by decide +kernel
theorem dX1_isBesideBrother_3 : decode cX1_isBesideBrother 3 = .ok (.aload_n 0, 1) := by decide +kernel
theorem dX1_isBesideBrother_4 : decode cX1_isBesideBrother 4 = .ok (.getfield 34, 3) := by decide +kernel
theorem dX1_isBesideBrother_7 : decode cX1_isBesideBrother 7 = .ok (.if_icmp .ge 39, 3) := by decide +kernel
theorem dX1_isBesideBrother_10 : decode cX1_isBesideBrother 10 = .ok (.iload_n 2, 1) := by decide +kernel
theorem dX1_isBesideBrother_11 : decode cX1_isBesideBrother 11 = .ok (.iload_n 1, 1) := by decide +kernel
theorem dX1_isBesideBrother_12 : decode cX1_isBesideBrother 12 = .ok (.if_icmp .eq 28, 3) := by decide +kernel
theorem dX1_isBesideBrother_15 : decode cX1_isBesideBrother 15 = .ok (.aload_n 0, 1) := by decide +kernel
theorem dX1_isBesideBrother_16 : decode cX1_isBesideBrother 16 = .ok (.getfield 40, 3) := by decide +kernel
theorem dX1_isBesideBrother_19 : decode cX1_isBesideBrother 19 = .ok (.iload_n 2, 1) := by decide +kernel
theorem dX1_isBesideBrother_20 : decode cX1_isBesideBrother 20 = .ok (.iaload, 1) := by decide +kernel
theorem dX1_isBesideBrother_21 : decode cX1_isBesideBrother 21 = .ok (.iconst 1, 1) := by decide +kernel
theorem dX1_isBesideBrother_22 : decode cX1_isBesideBrother 22 = .ok (.if_icmp .ne 18, 3) := by decide +kernel
theorem dX1_isBesideBrother_25 : decode cX1_isBesideBrother 25 = .ok (.aload_n 0, 1) := by decide +kernel
theorem dX1_isBesideBrother_26 : decode cX1_isBesideBrother 26 = .ok (.getfield 37, 3) := by decide +kernel
theorem dX1_isBesideBrother_29 : decode cX1_isBesideBrother 29 = .ok (.iload_n 2, 1) := by decide +kernel
theorem dX1_isBesideBrother_30 : decode cX1_isBesideBrother 30 = .ok (.iaload, 1) := by decide +kernel
theorem dX1_isBesideBrother_31 : decode cX1_isBesideBrother 31 = .ok (.iconst 1, 1) := by decide +kernel
theorem dX1_isBesideBrother_32 : decode cX1_isBesideBrother 32 = .ok (.invokestatic 104, 3) := by decide +kernel
theorem dX1_isBesideBrother_35 : decode cX1_isBesideBrother 35 = .ok (.ifCond .eq 5, 3) := by decide +kernel
theorem dX1_isBesideBrother_38 : decode cX1_isBesideBrother 38 = .ok (.iconst 1, 1) := by decide +kernel
theorem dX1_isBesideBrother_39 : decode cX1_isBesideBrother 39 = .ok (.ireturn, 1) := by decide +kernel
theorem dX1_isBesideBrother_40 : decode cX1_isBesideBrother 40 = .ok (.iinc 2 1, 3) := by decide +kernel
theorem dX1_isBesideBrother_43 : decode cX1_isBesideBrother 43 = .ok (.goto (-41), 3) := by decide +kernel
theorem dX1_isBesideBrother_46 : decode cX1_isBesideBrother 46 = .ok (.iconst 0, 1) := by decide +kernel
theorem dX1_isBesideBrother_47 : decode cX1_isBesideBrother 47 = .ok (.ireturn, 1) := by decide +kernel
theorem dX1_usesTogether_0 : decode cX1_usesTogether 0 = .ok (.iconst 0, 1) := by decide +kernel
theorem dX1_usesTogether_1 : decode cX1_usesTogether 1 = .ok (.istore_n 1, 1) := by decide +kernel
theorem dX1_usesTogether_2 : decode cX1_usesTogether 2 = .ok (.iconst 0, 1) := by decide +kernel
theorem dX1_usesTogether_3 : decode cX1_usesTogether 3 = .ok (.istore_n 2, 1) := by decide +kernel
theorem dX1_usesTogether_4 : decode cX1_usesTogether 4 = .ok (.iload_n 2, 1) := by decide +kernel
theorem dX1_usesTogether_5 : decode cX1_usesTogether 5 = .ok (.aload_n 0, 1) := by decide +kernel
theorem dX1_usesTogether_6 : decode cX1_usesTogether 6 = .ok (.getfield 34, 3) := by decide +kernel
theorem dX1_usesTogether_9 : decode cX1_usesTogether 9 = .ok (.if_icmp .ge 27, 3) := by decide +kernel
theorem dX1_usesTogether_12 : decode cX1_usesTogether 12 = .ok (.aload_n 0, 1) := by decide +kernel
theorem dX1_usesTogether_13 : decode cX1_usesTogether 13 = .ok (.getfield 40, 3) := by decide +kernel
theorem dX1_usesTogether_16 : decode cX1_usesTogether 16 = .ok (.iload_n 2, 1) := by decide +kernel
theorem dX1_usesTogether_17 : decode cX1_usesTogether 17 = .ok (.iaload, 1) := by decide +kernel
theorem dX1_usesTogether_18 : decode cX1_usesTogether 18 = .ok (.iconst 1, 1) := by decide +kernel
theorem dX1_usesTogether_19 : decode cX1_usesTogether 19 = .ok (.if_icmp .ne 11, 3) := by decide +kernel
theorem dX1_usesTogether_22 : decode cX1_usesTogether 22 = .ok (.iload_n 1, 1) := by decide +kernel
theorem dX1_usesTogether_23 : decode cX1_usesTogether 23 = .ok (.aload_n 0, 1) := by decide +kernel
theorem dX1_usesTogether_24 : decode cX1_usesTogether 24 = .ok (.iload_n 2, 1) := by decide +kernel
theorem dX1_usesTogether_25 : decode cX1_usesTogether 25 = .ok (.invokevirtual 107, 3) := by decide +kernel
theorem dX1_usesTogether_28 : decode cX1_usesTogether 28 = .ok (.iadd, 1) := by decide +kernel
theorem dX1_usesTogether_29 : decode cX1_usesTogether 29 = .ok (.istore_n 1, 1) := by decide +kernel
theorem dX1_usesTogether_30 : decode cX1_usesTogether 30 = .ok (.iinc 2 1, 3) := by decide +kernel
theorem dX1_usesTogether_33 : decode cX1_usesTogether 33 = .ok (.goto (-29), 3) := by decide +kernel
theorem dX1_usesTogether_36 : decode cX1_usesTogether 36 = .ok (.iload_n 1, 1) := by decide +kernel
theorem dX1_usesTogether_37 : decode cX1_usesTogether 37 = .ok (.ireturn, 1) := by decide +kernel
theorem dX1_passDays_0 : decode cX1_passDays 0 = .ok (.iconst 0, 1) := by decide +kernel
theorem dX1_passDays_1 : decode cX1_passDays 1 = .ok (.istore_n 2, 1) := by decide +kernel
theorem dX1_passDays_2 : decode cX1_passDays 2 = .ok (.iload_n 2, 1) := by decide +kernel
theorem dX1_passDays_3 : decode cX1_passDays 3 = .ok (.iload_n 1, 1) := by decide +kernel
theorem dX1_passDays_4 : decode cX1_passDays 4 = .ok (.if_icmp .ge 13, 3) := by decide +kernel
theorem dX1_passDays_7 : decode cX1_passDays 7 = .ok (.aload_n 0, 1) := by decide +kernel
theorem dX1_passDays_8 : decode cX1_passDays 8 = .ok (.invokevirtual 110, 3) := by decide +kernel
theorem dX1_passDays_11 : decode cX1_passDays 11 = .ok (.iinc 2 1, 3) := by decide +kernel
theorem dX1_passDays_14 : decode cX1_passDays 14 = .ok (.goto (-12), 3) := by decide +kernel
theorem dX1_passDays_17 : decode cX1_passDays 17 = .ok (.return_, 1) := by decide +kernel
theorem dX1_passDay_0 : decode cX1_passDay 0 = .ok (.aload_n 0, 1) := by decide +kernel
theorem dX1_passDay_1 : decode cX1_passDay 1 = .ok (.iconst (-1), 1) := by decide +kernel
theorem dX1_passDay_2 : decode cX1_passDay 2 = .ok (.putfield 52, 3) := by decide +kernel
theorem dX1_passDay_5 : decode cX1_passDay 5 = .ok (.aload_n 0, 1) := by decide +kernel
theorem dX1_passDay_6 : decode cX1_passDay 6 = .ok (.iconst (-1), 1) := by decide +kernel
theorem dX1_passDay_7 : decode cX1_passDay 7 = .ok (.putfield 55, 3) := by decide +kernel
theorem dX1_passDay_10 : decode cX1_passDay 10 = .ok (.aload_n 0, 1) := by decide +kernel
theorem dX1_passDay_11 : decode cX1_passDay 11 = .ok (.aload_n 0, 1) := by decide +kernel
theorem dX1_passDay_12 : decode cX1_passDay 12 = .ok (.invokevirtual 113, 3) := by decide +kernel
theorem dX1_passDay_15 : decode cX1_passDay 15 = .ok (.invokevirtual 117, 3) := by decide +kernel
theorem dX1_passDay_18 : decode cX1_passDay 18 = .ok (.aload_n 0, 1) := by decide +kernel
theorem dX1_passDay_19 : decode cX1_passDay 19 = .ok (.aload_n 0, 1) := by decide +kernel
theorem dX1_passDay_20 : decode cX1_passDay 20 = .ok (.getfield 15, 3) := by decide +kernel
theorem dX1_passDay_23 : decode cX1_passDay 23 = .ok (.invokevirtual 121, 3) := by decide +kernel
theorem dX1_passDay_26 : decode cX1_passDay 26 = .ok (.istore_n 1, 1) := by decide +kernel
theorem dX1_passDay_27 : decode cX1_passDay 27 = .ok (.iload_n 1, 1) := by decide +kernel
theorem dX1_passDay_28 : decode cX1_passDay 28 = .ok (.ifCond .le 8, 3) := by decide +kernel
theorem dX1_passDay_31 : decode cX1_passDay 31 = .ok (.aload_n 0, 1) := by decide +kernel
theorem dX1_passDay_32 : decode cX1_passDay 32 = .ok (.iload_n 1, 1) := by decide +kernel
theorem dX1_passDay_33 : decode cX1_passDay 33 = .ok (.invokevirtual 124, 3) := by decide +kernel
theorem dX1_passDay_36 : decode cX1_passDay 36 = .ok (.aload_n 0, 1) := by decide +kernel
theorem dX1_passDay_37 : decode cX1_passDay 37 = .ok (.dup, 1) := by decide +kernel
theorem dX1_passDay_38 : decode cX1_passDay 38 = .ok (.getfield 15, 3) := by decide +kernel
theorem dX1_passDay_41 : decode cX1_passDay 41 = .ok (.iconst 1, 1) := by decide +kernel
theorem dX1_passDay_42 : decode cX1_passDay 42 = .ok (.iadd, 1) := by decide +kernel
theorem dX1_passDay_43 : decode cX1_passDay 43 = .ok (.putfield 15, 3) := by decide +kernel
theorem dX1_passDay_46 : decode cX1_passDay 46 = .ok (.return_, 1) := by decide +kernel
theorem dX1_burnOil_0 : decode cX1_burnOil 0 = .ok (.aload_n 0, 1) := by decide +kernel
theorem dX1_burnOil_1 : decode cX1_burnOil 1 = .ok (.getfield 25, 3) := by decide +kernel
theorem dX1_burnOil_4 : decode cX1_burnOil 4 = .ok (.iload_n 1, 1) := by decide +kernel
theorem dX1_burnOil_5 : decode cX1_burnOil 5 = .ok (.if_icmp .ge 27, 3) := by decide +kernel
theorem dX1_burnOil_8 : decode cX1_burnOil 8 = .ok (.aload_n 0, 1) := by decide +kernel
theorem dX1_burnOil_9 : decode cX1_burnOil 9 = .ok (.iconst 0, 1) := by decide +kernel
theorem dX1_burnOil_10 : decode cX1_burnOil 10 = .ok (.putfield 25, 3) := by decide +kernel
theorem dX1_burnOil_13 : decode cX1_burnOil 13 = .ok (.aload_n 0, 1) := by decide +kernel
theorem dX1_burnOil_14 : decode cX1_burnOil 14 = .ok (.sipush 9999, 3) := by decide +kernel
theorem dX1_burnOil_17 : decode cX1_burnOil 17 = .ok (.aload_n 0, 1) := by decide +kernel
theorem dX1_burnOil_18 : decode cX1_burnOil 18 = .ok (.getfield 31, 3) := by decide +kernel
theorem dX1_burnOil_21 : decode cX1_burnOil 21 = .ok (.iconst 1, 1) := by decide +kernel
theorem dX1_burnOil_22 : decode cX1_burnOil 22 = .ok (.iadd, 1) := by decide +kernel
theorem dX1_burnOil_23 : decode cX1_burnOil 23 = .ok (.invokestatic 127, 3) := by decide +kernel
theorem dX1_burnOil_26 : decode cX1_burnOil 26 = .ok (.putfield 31, 3) := by decide +kernel
theorem dX1_burnOil_29 : decode cX1_burnOil 29 = .ok (.goto 13, 3) := by decide +kernel
theorem dX1_burnOil_32 : decode cX1_burnOil 32 = .ok (.aload_n 0, 1) := by decide +kernel
theorem dX1_burnOil_33 : decode cX1_burnOil 33 = .ok (.dup, 1) := by decide +kernel
theorem dX1_burnOil_34 : decode cX1_burnOil 34 = .ok (.getfield 25, 3) := by decide +kernel
theorem dX1_burnOil_37 : decode cX1_burnOil 37 = .ok (.iload_n 1, 1) := by decide +kernel
theorem dX1_burnOil_38 : decode cX1_burnOil 38 = .ok (.isub, 1) := by decide +kernel
theorem dX1_burnOil_39 : decode cX1_burnOil 39 = .ok (.putfield 25, 3) := by decide +kernel
theorem dX1_burnOil_42 : decode cX1_burnOil 42 = .ok (.return_, 1) := by decide +kernel
theorem dX1_blowGale_0 : decode cX1_blowGale 0 = .ok (.aload_n 0, 1) := by decide +kernel
theorem dX1_blowGale_1 : decode cX1_blowGale 1 = .ok (.dup, 1) := by decide +kernel
theorem dX1_blowGale_2 : decode cX1_blowGale 2 = .ok (.getfield 22, 3) := by decide +kernel
theorem dX1_blowGale_5 : decode cX1_blowGale 5 = .ok (.iconst 1, 1) := by decide +kernel
theorem dX1_blowGale_6 : decode cX1_blowGale 6 = .ok (.iadd, 1) := by decide +kernel
theorem dX1_blowGale_7 : decode cX1_blowGale 7 = .ok (.putfield 22, 3) := by decide +kernel
theorem dX1_blowGale_10 : decode cX1_blowGale 10 = .ok (.aload_n 0, 1) := by decide +kernel
theorem dX1_blowGale_11 : decode cX1_blowGale 11 = .ok (.getfield 22, 3) := by decide +kernel
theorem dX1_blowGale_14 : decode cX1_blowGale 14 = .ok (.iconst 3, 1) := by decide +kernel
theorem dX1_blowGale_15 : decode cX1_blowGale 15 = .ok (.if_icmp .ge 4, 3) := by decide +kernel
theorem dX1_blowGale_18 : decode cX1_blowGale 18 = .ok (.return_, 1) := by decide +kernel
theorem dX1_blowGale_19 : decode cX1_blowGale 19 = .ok (.aload_n 0, 1) := by decide +kernel
theorem dX1_blowGale_20 : decode cX1_blowGale 20 = .ok (.iconst 0, 1) := by decide +kernel
theorem dX1_blowGale_21 : decode cX1_blowGale 21 = .ok (.invokevirtual 130, 3) := by decide +kernel
theorem dX1_blowGale_24 : decode cX1_blowGale 24 = .ok (.istore_n 2, 1) := by decide +kernel
theorem dX1_blowGale_25 : decode cX1_blowGale 25 = .ok (.iload_n 2, 1) := by decide +kernel
theorem dX1_blowGale_26 : decode cX1_blowGale 26 = .ok (.ifCond .ge 9, 3) := by decide +kernel
theorem dX1_blowGale_29 : decode cX1_blowGale 29 = .ok (.aload_n 0, 1) := by decide +kernel
theorem dX1_blowGale_30 : decode cX1_blowGale 30 = .ok (.iconst 2, 1) := by decide +kernel
theorem dX1_blowGale_31 : decode cX1_blowGale 31 = .ok (.putfield 22, 3) := by decide +kernel
theorem dX1_blowGale_34 : decode cX1_blowGale 34 = .ok (.return_, 1) := by decide +kernel
theorem dX1_blowGale_35 : decode cX1_blowGale 35 = .ok (.aload_n 0, 1) := by decide +kernel
theorem dX1_blowGale_36 : decode cX1_blowGale 36 = .ok (.iconst 0, 1) := by decide +kernel
theorem dX1_blowGale_37 : decode cX1_blowGale 37 = .ok (.putfield 22, 3) := by decide +kernel
theorem dX1_blowGale_40 : decode cX1_blowGale 40 = .ok (.aload_n 0, 1) := by decide +kernel
theorem dX1_blowGale_41 : decode cX1_blowGale 41 = .ok (.iload_n 2, 1) := by decide +kernel
theorem dX1_blowGale_42 : decode cX1_blowGale 42 = .ok (.iload_n 1, 1) := by decide +kernel
theorem dX1_blowGale_43 : decode cX1_blowGale 43 = .ok (.invokevirtual 133, 3) := by decide +kernel
theorem dX1_blowGale_46 : decode cX1_blowGale 46 = .ok (.return_, 1) := by decide +kernel
theorem dX1_relieve_0 : decode cX1_relieve 0 = .ok (.aload_n 0, 1) := by decide +kernel
theorem dX1_relieve_1 : decode cX1_relieve 1 = .ok (.iconst 1, 1) := by decide +kernel
theorem dX1_relieve_2 : decode cX1_relieve 2 = .ok (.invokevirtual 137, 3) := by decide +kernel
theorem dX1_relieve_5 : decode cX1_relieve 5 = .ok (.aload_n 0, 1) := by decide +kernel
theorem dX1_relieve_6 : decode cX1_relieve 6 = .ok (.getfield 28, 3) := by decide +kernel
theorem dX1_relieve_9 : decode cX1_relieve 9 = .ok (.if_icmp .lt 11, 3) := by decide +kernel
theorem dX1_relieve_12 : decode cX1_relieve 12 = .ok (.aload_n 0, 1) := by decide +kernel
theorem dX1_relieve_13 : decode cX1_relieve 13 = .ok (.iconst 1, 1) := by decide +kernel
theorem dX1_relieve_14 : decode cX1_relieve 14 = .ok (.invokevirtual 130, 3) := by decide +kernel
theorem dX1_relieve_17 : decode cX1_relieve 17 = .ok (.goto 4, 3) := by decide +kernel
theorem dX1_relieve_20 : decode cX1_relieve 20 = .ok (.iconst (-1), 1) := by decide +kernel
theorem dX1_relieve_21 : decode cX1_relieve 21 = .ok (.istore_n 3, 1) := by decide +kernel
theorem dX1_relieve_22 : decode cX1_relieve 22 = .ok (.aload_n 0, 1) := by decide +kernel
theorem dX1_relieve_23 : decode cX1_relieve 23 = .ok (.getfield 40, 3) := by decide +kernel
theorem dX1_relieve_26 : decode cX1_relieve 26 = .ok (.iload_n 1, 1) := by decide +kernel
theorem dX1_relieve_27 : decode cX1_relieve 27 = .ok (.iconst 1, 1) := by decide +kernel
theorem dX1_relieve_28 : decode cX1_relieve 28 = .ok (.iastore, 1) := by decide +kernel
theorem dX1_relieve_29 : decode cX1_relieve 29 = .ok (.aload_n 0, 1) := by decide +kernel
theorem dX1_relieve_30 : decode cX1_relieve 30 = .ok (.getfield 43, 3) := by decide +kernel
theorem dX1_relieve_33 : decode cX1_relieve 33 = .ok (.iload_n 1, 1) := by decide +kernel
theorem dX1_relieve_34 : decode cX1_relieve 34 = .ok (.aload_n 0, 1) := by decide +kernel
theorem dX1_relieve_35 : decode cX1_relieve 35 = .ok (.getfield 15, 3) := by decide +kernel
theorem dX1_relieve_38 : decode cX1_relieve 38 = .ok (.iconst 1, 1) := by decide +kernel
theorem dX1_relieve_39 : decode cX1_relieve 39 = .ok (.iadd, 1) := by decide +kernel
theorem dX1_relieve_40 : decode cX1_relieve 40 = .ok (.iastore, 1) := by decide +kernel
theorem dX1_relieve_41 : decode cX1_relieve 41 = .ok (.aload_n 0, 1) := by decide +kernel
theorem dX1_relieve_42 : decode cX1_relieve 42 = .ok (.sipush 9999, 3) := by decide +kernel
theorem dX1_relieve_45 : decode cX1_relieve 45 = .ok (.aload_n 0, 1) := by decide +kernel
theorem dX1_relieve_46 : decode cX1_relieve 46 = .ok (.getfield 25, 3) := by decide +kernel
theorem dX1_relieve_49 : decode cX1_relieve 49 = .ok (.aload_n 0, 1) := by decide +kernel
theorem dX1_relieve_50 : decode cX1_relieve 50 = .ok (.getfield 37, 3) := by decide +kernel
theorem dX1_relieve_53 : decode cX1_relieve 53 = .ok (.iload_n 1, 1) := by decide +kernel
theorem dX1_relieve_54 : decode cX1_relieve 54 = .ok (.iaload, 1) := by decide +kernel
theorem dX1_relieve_55 : decode cX1_relieve 55 = .ok (.iload_n 2, 1) := by decide +kernel
theorem dX1_relieve_56 : decode cX1_relieve 56 = .ok (.invokestatic 140, 3) := by decide +kernel
theorem dX1_relieve_59 : decode cX1_relieve 59 = .ok (.iadd, 1) := by decide +kernel
theorem dX1_relieve_60 : decode cX1_relieve 60 = .ok (.invokestatic 127, 3) := by decide +kernel
theorem dX1_relieve_63 : decode cX1_relieve 63 = .ok (.putfield 25, 3) := by decide +kernel
theorem dX1_relieve_66 : decode cX1_relieve 66 = .ok (.iload_n 3, 1) := by decide +kernel
theorem dX1_relieve_67 : decode cX1_relieve 67 = .ok (.ifCond .lt 29, 3) := by decide +kernel
theorem dX1_relieve_70 : decode cX1_relieve 70 = .ok (.aload_n 0, 1) := by decide +kernel
theorem dX1_relieve_71 : decode cX1_relieve 71 = .ok (.getfield 40, 3) := by decide +kernel
theorem dX1_relieve_74 : decode cX1_relieve 74 = .ok (.iload_n 3, 1) := by decide +kernel
theorem dX1_relieve_75 : decode cX1_relieve 75 = .ok (.iconst 0, 1) := by decide +kernel
theorem dX1_relieve_76 : decode cX1_relieve 76 = .ok (.iastore, 1) := by decide +kernel
theorem dX1_relieve_77 : decode cX1_relieve 77 = .ok (.aload_n 0, 1) := by decide +kernel
theorem dX1_relieve_78 : decode cX1_relieve 78 = .ok (.getfield 43, 3) := by decide +kernel
theorem dX1_relieve_81 : decode cX1_relieve 81 = .ok (.iload_n 3, 1) := by decide +kernel
theorem dX1_relieve_82 : decode cX1_relieve 82 = .ok (.aload_n 0, 1) := by decide +kernel
theorem dX1_relieve_83 : decode cX1_relieve 83 = .ok (.getfield 15, 3) := by decide +kernel
theorem dX1_relieve_86 : decode cX1_relieve 86 = .ok (.iconst 1, 1) := by decide +kernel
theorem dX1_relieve_87 : decode cX1_relieve 87 = .ok (.iadd, 1) := by decide +kernel
theorem dX1_relieve_88 : decode cX1_relieve 88 = .ok (.iastore, 1) := by decide +kernel
theorem dX1_relieve_89 : decode cX1_relieve 89 = .ok (.aload_n 0, 1) := by decide +kernel
theorem dX1_relieve_90 : decode cX1_relieve 90 = .ok (.iload_n 1, 1) := by decide +kernel
theorem dX1_relieve_91 : decode cX1_relieve 91 = .ok (.iload_n 3, 1) := by decide +kernel
theorem dX1_relieve_92 : decode cX1_relieve 92 = .ok (.iload_n 2, 1) := by decide +kernel
theorem dX1_relieve_93 : decode cX1_relieve 93 = .ok (.invokevirtual 143, 3) := by decide +kernel
theorem dX1_relieve_96 : decode cX1_relieve 96 = .ok (.return_, 1) := by decide +kernel
theorem dX1_meetInMidAir_0 : decode cX1_meetInMidAir 0 = .ok (.aload_n 0, 1) := by decide +kernel
theorem dX1_meetInMidAir_1 : decode cX1_meetInMidAir 1 = .ok (.getfield 49, 3) := by decide +kernel
theorem dX1_meetInMidAir_4 : decode cX1_meetInMidAir 4 = .ok (.iload_n 1, 1) := by decide +kernel
theorem dX1_meetInMidAir_5 : decode cX1_meetInMidAir 5 = .ok (.sipush 9999, 3) := by decide +kernel
theorem dX1_meetInMidAir_8 : decode cX1_meetInMidAir 8 = .ok (.aload_n 0, 1) := by decide +kernel
theorem dX1_meetInMidAir_9 : decode cX1_meetInMidAir 9 = .ok (.getfield 49, 3) := by decide +kernel
theorem dX1_meetInMidAir_12 : decode cX1_meetInMidAir 12 = .ok (.iload_n 1, 1) := by decide +kernel
theorem dX1_meetInMidAir_13 : decode cX1_meetInMidAir 13 = .ok (.iaload, 1) := by decide +kernel
theorem dX1_meetInMidAir_14 : decode cX1_meetInMidAir 14 = .ok (.iconst 1, 1) := by decide +kernel
theorem dX1_meetInMidAir_15 : decode cX1_meetInMidAir 15 = .ok (.iadd, 1) := by decide +kernel
theorem dX1_meetInMidAir_16 : decode cX1_meetInMidAir 16 = .ok (.invokestatic 127, 3) := by decide +kernel
theorem dX1_meetInMidAir_19 : decode cX1_meetInMidAir 19 = .ok (.iastore, 1) := by decide +kernel
theorem dX1_meetInMidAir_20 : decode cX1_meetInMidAir 20 = .ok (.aload_n 0, 1) := by decide +kernel
theorem dX1_meetInMidAir_21 : decode cX1_meetInMidAir 21 = .ok (.getfield 49, 3) := by decide +kernel
theorem dX1_meetInMidAir_24 : decode cX1_meetInMidAir 24 = .ok (.iload_n 2, 1) := by decide +kernel
theorem dX1_meetInMidAir_25 : decode cX1_meetInMidAir 25 = .ok (.sipush 9999, 3) := by decide +kernel
theorem dX1_meetInMidAir_28 : decode cX1_meetInMidAir 28 = .ok (.aload_n 0, 1) := by decide +kernel
theorem dX1_meetInMidAir_29 : decode cX1_meetInMidAir 29 = .ok (.getfield 49, 3) := by decide +kernel
theorem dX1_meetInMidAir_32 : decode cX1_meetInMidAir 32 = .ok (.iload_n 2, 1) := by decide +kernel
theorem dX1_meetInMidAir_33 : decode cX1_meetInMidAir 33 = .ok (.iaload, 1) := by decide +kernel
theorem dX1_meetInMidAir_34 : decode cX1_meetInMidAir 34 = .ok (.iconst 1, 1) := by decide +kernel
theorem dX1_meetInMidAir_35 : decode cX1_meetInMidAir 35 = .ok (.iadd, 1) := by decide +kernel
theorem dX1_meetInMidAir_36 : decode cX1_meetInMidAir 36 = .ok (.invokestatic 127, 3) := by decide +kernel
theorem dX1_meetInMidAir_39 : decode cX1_meetInMidAir 39 = .ok (.iastore, 1) := by decide +kernel
theorem dX1_meetInMidAir_40 : decode cX1_meetInMidAir 40 = .ok (.aload_n 0, 1) := by decide +kernel
theorem dX1_meetInMidAir_41 : decode cX1_meetInMidAir 41 = .ok (.getfield 46, 3) := by decide +kernel
theorem dX1_meetInMidAir_44 : decode cX1_meetInMidAir 44 = .ok (.iload_n 1, 1) := by decide +kernel
theorem dX1_meetInMidAir_45 : decode cX1_meetInMidAir 45 = .ok (.iaload, 1) := by decide +kernel
theorem dX1_meetInMidAir_46 : decode cX1_meetInMidAir 46 = .ok (.istore 4, 2) := by decide +kernel
theorem dX1_meetInMidAir_48 : decode cX1_meetInMidAir 48 = .ok (.aload_n 0, 1) := by decide +kernel
theorem dX1_meetInMidAir_49 : decode cX1_meetInMidAir 49 = .ok (.getfield 46, 3) := by decide +kernel
theorem dX1_meetInMidAir_52 : decode cX1_meetInMidAir 52 = .ok (.iload_n 2, 1) := by decide +kernel
theorem dX1_meetInMidAir_53 : decode cX1_meetInMidAir 53 = .ok (.iaload, 1) := by decide +kernel
theorem dX1_meetInMidAir_54 : decode cX1_meetInMidAir 54 = .ok (.istore 5, 2) := by decide +kernel
theorem dX1_meetInMidAir_56 : decode cX1_meetInMidAir 56 = .ok (.aload_n 0, 1) := by decide +kernel
theorem dX1_meetInMidAir_57 : decode cX1_meetInMidAir 57 = .ok (.getfield 46, 3) := by decide +kernel
theorem dX1_meetInMidAir_60 : decode cX1_meetInMidAir 60 = .ok (.iload_n 1, 1) := by decide +kernel
theorem dX1_meetInMidAir_61 : decode cX1_meetInMidAir 61 = .ok (.dup2, 1) := by decide +kernel
theorem dX1_meetInMidAir_62 : decode cX1_meetInMidAir 62 = .ok (.iaload, 1) := by decide +kernel
theorem dX1_meetInMidAir_63 : decode cX1_meetInMidAir 63 = .ok (.iload 5, 2) := by decide +kernel
theorem dX1_meetInMidAir_65 : decode cX1_meetInMidAir 65 = .ok (.iload 4, 2) := by decide +kernel
theorem dX1_meetInMidAir_67 : decode cX1_meetInMidAir 67 = .ok (.iconst (-1), 1) := by decide +kernel
theorem dX1_meetInMidAir_68 : decode cX1_meetInMidAir 68 = .ok (.ixor, 1) := by decide +kernel
theorem dX1_meetInMidAir_69 : decode cX1_meetInMidAir 69 = .ok (.iand, 1) := by decide +kernel
theorem dX1_meetInMidAir_70 : decode cX1_meetInMidAir 70 = .ok (.aload_n 0, 1) := by decide +kernel
theorem dX1_meetInMidAir_71 : decode cX1_meetInMidAir 71 = .ok (.getfield 37, 3) := by decide +kernel
theorem dX1_meetInMidAir_74 : decode cX1_meetInMidAir 74 = .ok (.iload_n 2, 1) := by decide +kernel
theorem dX1_meetInMidAir_75 : decode cX1_meetInMidAir 75 = .ok (.iaload, 1) := by decide +kernel
theorem dX1_meetInMidAir_76 : decode cX1_meetInMidAir 76 = .ok (.iload_n 3, 1) := by decide +kernel
theorem dX1_meetInMidAir_77 : decode cX1_meetInMidAir 77 = .ok (.invokestatic 147, 3) := by decide +kernel
theorem dX1_meetInMidAir_80 : decode cX1_meetInMidAir 80 = .ok (.invokestatic 150, 3) := by decide +kernel
theorem dX1_meetInMidAir_83 : decode cX1_meetInMidAir 83 = .ok (.ior, 1) := by decide +kernel
theorem dX1_meetInMidAir_84 : decode cX1_meetInMidAir 84 = .ok (.iastore, 1) := by decide +kernel
theorem dX1_meetInMidAir_85 : decode cX1_meetInMidAir 85 = .ok (.aload_n 0, 1) := by decide +kernel
theorem dX1_meetInMidAir_86 : decode cX1_meetInMidAir 86 = .ok (.getfield 46, 3) := by decide +kernel
theorem dX1_meetInMidAir_89 : decode cX1_meetInMidAir 89 = .ok (.iload_n 2, 1) := by decide +kernel
theorem dX1_meetInMidAir_90 : decode cX1_meetInMidAir 90 = .ok (.dup2, 1) := by decide +kernel
theorem dX1_meetInMidAir_91 : decode cX1_meetInMidAir 91 = .ok (.iaload, 1) := by decide +kernel
theorem dX1_meetInMidAir_92 : decode cX1_meetInMidAir 92 = .ok (.iload 4, 2) := by decide +kernel
theorem dX1_meetInMidAir_94 : decode cX1_meetInMidAir 94 = .ok (.iload 5, 2) := by decide +kernel
theorem dX1_meetInMidAir_96 : decode cX1_meetInMidAir 96 = .ok (.iconst (-1), 1) := by decide +kernel
theorem dX1_meetInMidAir_97 : decode cX1_meetInMidAir 97 = .ok (.ixor, 1) := by decide +kernel
theorem dX1_meetInMidAir_98 : decode cX1_meetInMidAir 98 = .ok (.iand, 1) := by decide +kernel
theorem dX1_meetInMidAir_99 : decode cX1_meetInMidAir 99 = .ok (.aload_n 0, 1) := by decide +kernel
theorem dX1_meetInMidAir_100 : decode cX1_meetInMidAir 100 = .ok (.getfield 37, 3) := by decide +kernel
theorem dX1_meetInMidAir_103 : decode cX1_meetInMidAir 103 = .ok (.iload_n 1, 1) := by decide +kernel
theorem dX1_meetInMidAir_104 : decode cX1_meetInMidAir 104 = .ok (.iaload, 1) := by decide +kernel
theorem dX1_meetInMidAir_105 : decode cX1_meetInMidAir 105 = .ok (.iload_n 3, 1) := by decide +kernel
theorem dX1_meetInMidAir_106 : decode cX1_meetInMidAir 106 = .ok (.invokestatic 147, 3) := by decide +kernel
theorem dX1_meetInMidAir_109 : decode cX1_meetInMidAir 109 = .ok (.invokestatic 150, 3) := by decide +kernel
theorem dX1_meetInMidAir_112 : decode cX1_meetInMidAir 112 = .ok (.ior, 1) := by decide +kernel
theorem dX1_meetInMidAir_113 : decode cX1_meetInMidAir 113 = .ok (.iastore, 1) := by decide +kernel
theorem dX1_meetInMidAir_114 : decode cX1_meetInMidAir 114 = .ok (.aload_n 0, 1) := by decide +kernel
theorem dX1_meetInMidAir_115 : decode cX1_meetInMidAir 115 = .ok (.iload_n 1, 1) := by decide +kernel
theorem dX1_meetInMidAir_116 : decode cX1_meetInMidAir 116 = .ok (.putfield 52, 3) := by decide +kernel
theorem dX1_meetInMidAir_119 : decode cX1_meetInMidAir 119 = .ok (.aload_n 0, 1) := by decide +kernel
theorem dX1_meetInMidAir_120 : decode cX1_meetInMidAir 120 = .ok (.iload_n 2, 1) := by decide +kernel
theorem dX1_meetInMidAir_121 : decode cX1_meetInMidAir 121 = .ok (.putfield 55, 3) := by decide +kernel
theorem dX1_meetInMidAir_124 : decode cX1_meetInMidAir 124 = .ok (.return_, 1) := by decide +kernel
theorem dX1_leastOf_0 : decode cX1_leastOf 0 = .ok (.iconst 0, 1) := by decide +kernel
theorem dX1_leastOf_1 : decode cX1_leastOf 1 = .ok (.istore_n 2, 1) := by decide +kernel
theorem dX1_leastOf_2 : decode cX1_leastOf 2 = .ok (.iload_n 1, 1) := by decide +kernel
theorem dX1_leastOf_3 : decode cX1_leastOf 3 = .ok (.istore_n 3, 1) := by decide +kernel
theorem dX1_leastOf_4 : decode cX1_leastOf 4 = .ok (.iconst 0, 1) := by decide +kernel
theorem dX1_leastOf_5 : decode cX1_leastOf 5 = .ok (.istore 4, 2) := by decide +kernel
theorem dX1_leastOf_7 : decode cX1_leastOf 7 = .ok (.iload 4, 2) := by decide +kernel
theorem dX1_leastOf_9 : decode cX1_leastOf 9 = .ok (.bipush 9, 2) := by decide +kernel
theorem dX1_leastOf_11 : decode cX1_leastOf 11 = .ok (.if_icmp .ge 33, 3) := by decide +kernel
theorem dX1_leastOf_14 : decode cX1_leastOf 14 = .ok (.iload_n 3, 1) := by decide +kernel
theorem dX1_leastOf_15 : decode cX1_leastOf 15 = .ok (.ifCond .le 29, 3) := by decide +kernel
theorem dX1_leastOf_18 : decode cX1_leastOf 18 = .ok (.iload_n 0, 1) := by decide +kernel
theorem dX1_leastOf_19 : decode cX1_leastOf 19 = .ok (.iload 4, 2) := by decide +kernel
theorem dX1_leastOf_21 : decode cX1_leastOf 21 = .ok (.ishr, 1) := by decide +kernel
theorem dX1_leastOf_22 : decode cX1_leastOf 22 = .ok (.iconst 1, 1) := by decide +kernel
theorem dX1_leastOf_23 : decode cX1_leastOf 23 = .ok (.iand, 1) := by decide +kernel
theorem dX1_leastOf_24 : decode cX1_leastOf 24 = .ok (.iconst 1, 1) := by decide +kernel
theorem dX1_leastOf_25 : decode cX1_leastOf 25 = .ok (.if_icmp .ne 13, 3) := by decide +kernel
theorem dX1_leastOf_28 : decode cX1_leastOf 28 = .ok (.iload_n 2, 1) := by decide +kernel
theorem dX1_leastOf_29 : decode cX1_leastOf 29 = .ok (.iconst 1, 1) := by decide +kernel
theorem dX1_leastOf_30 : decode cX1_leastOf 30 = .ok (.iload 4, 2) := by decide +kernel
theorem dX1_leastOf_32 : decode cX1_leastOf 32 = .ok (.ishl, 1) := by decide +kernel
theorem dX1_leastOf_33 : decode cX1_leastOf 33 = .ok (.ior, 1) := by decide +kernel
theorem dX1_leastOf_34 : decode cX1_leastOf 34 = .ok (.istore_n 2, 1) := by decide +kernel
theorem dX1_leastOf_35 : decode cX1_leastOf 35 = .ok (.iinc 3 (-1), 3) := by decide +kernel
theorem dX1_leastOf_38 : decode cX1_leastOf 38 = .ok (.iinc 4 1, 3) := by decide +kernel
theorem dX1_leastOf_41 : decode cX1_leastOf 41 = .ok (.goto (-34), 3) := by decide +kernel
theorem dX1_leastOf_44 : decode cX1_leastOf 44 = .ok (.iload_n 2, 1) := by decide +kernel
theorem dX1_leastOf_45 : decode cX1_leastOf 45 = .ok (.ireturn, 1) := by decide +kernel
theorem dX1_longestStanding_0 : decode cX1_longestStanding 0 = .ok (.iconst (-1), 1) := by decide +kernel
theorem dX1_longestStanding_1 : decode cX1_longestStanding 1 = .ok (.istore_n 2, 1) := by decide +kernel
theorem dX1_longestStanding_2 : decode cX1_longestStanding 2 = .ok (.iconst 0, 1) := by decide +kernel
theorem dX1_longestStanding_3 : decode cX1_longestStanding 3 = .ok (.istore_n 3, 1) := by decide +kernel
theorem dX1_longestStanding_4 : decode cX1_longestStanding 4 = .ok (.iload_n 3, 1) := by decide +kernel
theorem dX1_longestStanding_5 : decode cX1_longestStanding 5 = .ok (.aload_n 0, 1) := by decide +kernel
theorem dX1_longestStanding_6 : decode cX1_longestStanding 6 = .ok (.getfield 34, 3) := by decide +kernel
theorem dX1_longestStanding_9 : decode cX1_longestStanding 9 = .ok (.if_icmp .ge 40, 3) := by decide +kernel
theorem dX1_longestStanding_12 : decode cX1_longestStanding 12 = .ok (.aload_n 0, 1) := by decide +kernel
theorem dX1_longestStanding_13 : decode cX1_longestStanding 13 = .ok (.getfield 40, 3) := by decide +kernel
theorem dX1_longestStanding_16 : decode cX1_longestStanding 16 = .ok (.iload_n 3, 1) := by decide +kernel
theorem dX1_longestStanding_17 : decode cX1_longestStanding 17 = .ok (.iaload, 1) := by decide +kernel
theorem dX1_longestStanding_18 : decode cX1_longestStanding 18 = .ok (.iload_n 1, 1) := by decide +kernel
theorem dX1_longestStanding_19 : decode cX1_longestStanding 19 = .ok (.if_icmp .ne 24, 3) := by decide +kernel
theorem dX1_longestStanding_22 : decode cX1_longestStanding 22 = .ok (.iload_n 2, 1) := by decide +kernel
theorem dX1_longestStanding_23 : decode cX1_longestStanding 23 = .ok (.ifCond .lt 18, 3) := by decide +kernel
theorem dX1_longestStanding_26 : decode cX1_longestStanding 26 = .ok (.aload_n 0, 1) := by decide +kernel
theorem dX1_longestStanding_27 : decode cX1_longestStanding 27 = .ok (.getfield 43, 3) := by decide +kernel
theorem dX1_longestStanding_30 : decode cX1_longestStanding 30 = .ok (.iload_n 3, 1) := by decide +kernel
theorem dX1_longestStanding_31 : decode cX1_longestStanding 31 = .ok (.iaload, 1) := by decide +kernel
theorem dX1_longestStanding_32 : decode cX1_longestStanding 32 = .ok (.aload_n 0, 1) := by decide +kernel
theorem dX1_longestStanding_33 : decode cX1_longestStanding 33 = .ok (.getfield 43, 3) := by decide +kernel
theorem dX1_longestStanding_36 : decode cX1_longestStanding 36 = .ok (.iload_n 2, 1) := by decide +kernel
theorem dX1_longestStanding_37 : decode cX1_longestStanding 37 = .ok (.iaload, 1) := by decide +kernel
theorem dX1_longestStanding_38 : decode cX1_longestStanding 38 = .ok (.if_icmp .ge 5, 3) := by decide +kernel
theorem dX1_longestStanding_41 : decode cX1_longestStanding 41 = .ok (.iload_n 3, 1) := by decide +kernel
theorem dX1_longestStanding_42 : decode cX1_longestStanding 42 = .ok (.istore_n 2, 1) := by decide +kernel
theorem dX1_longestStanding_43 : decode cX1_longestStanding 43 = .ok (.iinc 3 1, 3) := by decide +kernel
theorem dX1_longestStanding_46 : decode cX1_longestStanding 46 = .ok (.goto (-42), 3) := by decide +kernel
theorem dX1_longestStanding_49 : decode cX1_longestStanding 49 = .ok (.iload_n 2, 1) := by decide +kernel
theorem dX1_longestStanding_50 : decode cX1_longestStanding 50 = .ok (.ireturn, 1) := by decide +kernel
theorem dX1_haveJustMet_0 : decode cX1_haveJustMet 0 = .ok (.aload_n 0, 1) := by decide +kernel
theorem dX1_haveJustMet_1 : decode cX1_haveJustMet 1 = .ok (.getfield 52, 3) := by decide +kernel
theorem dX1_haveJustMet_4 : decode cX1_haveJustMet 4 = .ok (.iload_n 1, 1) := by decide +kernel
theorem dX1_haveJustMet_5 : decode cX1_haveJustMet 5 = .ok (.if_icmp .ne 11, 3) := by decide +kernel
theorem dX1_haveJustMet_8 : decode cX1_haveJustMet 8 = .ok (.aload_n 0, 1) := by decide +kernel
theorem dX1_haveJustMet_9 : decode cX1_haveJustMet 9 = .ok (.getfield 55, 3) := by decide +kernel
theorem dX1_haveJustMet_12 : decode cX1_haveJustMet 12 = .ok (.iload_n 2, 1) := by decide +kernel
theorem dX1_haveJustMet_13 : decode cX1_haveJustMet 13 = .ok (.if_icmp .eq 19, 3) := by decide +kernel
theorem dX1_haveJustMet_16 : decode cX1_haveJustMet 16 = .ok (.aload_n 0, 1) := by decide +kernel
theorem dX1_haveJustMet_17 : decode cX1_haveJustMet 17 = .ok (.getfield 52, 3) := by decide +kernel
theorem dX1_haveJustMet_20 : decode cX1_haveJustMet 20 = .ok (.iload_n 2, 1) := by decide +kernel
theorem dX1_haveJustMet_21 : decode cX1_haveJustMet 21 = .ok (.if_icmp .ne 15, 3) := by decide +kernel
theorem dX1_haveJustMet_24 : decode cX1_haveJustMet 24 = .ok (.aload_n 0, 1) := by decide +kernel
theorem dX1_haveJustMet_25 : decode cX1_haveJustMet 25 = .ok (.getfield 55, 3) := by decide +kernel
theorem dX1_haveJustMet_28 : decode cX1_haveJustMet 28 = .ok (.iload_n 1, 1) := by decide +kernel
theorem dX1_haveJustMet_29 : decode cX1_haveJustMet 29 = .ok (.if_icmp .ne 7, 3) := by decide +kernel
theorem dX1_haveJustMet_32 : decode cX1_haveJustMet 32 = .ok (.iconst 1, 1) := by decide +kernel
theorem dX1_haveJustMet_33 : decode cX1_haveJustMet 33 = .ok (.goto 4, 3) := by decide +kernel
theorem dX1_haveJustMet_36 : decode cX1_haveJustMet 36 = .ok (.iconst 0, 1) := by decide +kernel
theorem dX1_haveJustMet_37 : decode cX1_haveJustMet 37 = .ok (.ireturn, 1) := by decide +kernel
theorem dX1_daysToRelief_0 : decode cX1_daysToRelief 0 = .ok (.aload_n 0, 1) := by decide +kernel
theorem dX1_daysToRelief_1 : decode cX1_daysToRelief 1 = .ok (.iconst 0, 1) := by decide +kernel
theorem dX1_daysToRelief_2 : decode cX1_daysToRelief 2 = .ok (.invokevirtual 137, 3) := by decide +kernel
theorem dX1_daysToRelief_5 : decode cX1_daysToRelief 5 = .ok (.ifCond .ne 7, 3) := by decide +kernel
theorem dX1_daysToRelief_8 : decode cX1_daysToRelief 8 = .ok (.iload_n 1, 1) := by decide +kernel
theorem dX1_daysToRelief_9 : decode cX1_daysToRelief 9 = .ok (.iconst 1, 1) := by decide +kernel
theorem dX1_daysToRelief_10 : decode cX1_daysToRelief 10 = .ok (.iadd, 1) := by decide +kernel
theorem dX1_daysToRelief_11 : decode cX1_daysToRelief 11 = .ok (.ireturn, 1) := by decide +kernel
theorem dX1_daysToRelief_12 : decode cX1_daysToRelief 12 = .ok (.aload_n 0, 1) := by decide +kernel
theorem dX1_daysToRelief_13 : decode cX1_daysToRelief 13 = .ok (.getfield 22, 3) := by decide +kernel
theorem dX1_daysToRelief_16 : decode cX1_daysToRelief 16 = .ok (.istore_n 2, 1) := by decide +kernel
theorem dX1_daysToRelief_17 : decode cX1_daysToRelief 17 = .ok (.iconst 1, 1) := by decide +kernel
theorem dX1_daysToRelief_18 : decode cX1_daysToRelief 18 = .ok (.istore_n 3, 1) := by decide +kernel
theorem dX1_daysToRelief_19 : decode cX1_daysToRelief 19 = .ok (.iload_n 3, 1) := by decide +kernel
theorem dX1_daysToRelief_20 : decode cX1_daysToRelief 20 = .ok (.iload_n 1, 1) := by decide +kernel
theorem dX1_daysToRelief_21 : decode cX1_daysToRelief 21 = .ok (.if_icmp .gt 34, 3) := by decide +kernel
theorem dX1_daysToRelief_24 : decode cX1_daysToRelief 24 = .ok (.aload_n 0, 1) := by decide +kernel
theorem dX1_daysToRelief_25 : decode cX1_daysToRelief 25 = .ok (.aload_n 0, 1) := by decide +kernel
theorem dX1_daysToRelief_26 : decode cX1_daysToRelief 26 = .ok (.getfield 15, 3) := by decide +kernel
theorem dX1_daysToRelief_29 : decode cX1_daysToRelief 29 = .ok (.iload_n 3, 1) := by decide +kernel
theorem dX1_daysToRelief_30 : decode cX1_daysToRelief 30 = .ok (.iadd, 1) := by decide +kernel
theorem dX1_daysToRelief_31 : decode cX1_daysToRelief 31 = .ok (.iconst 1, 1) := by decide +kernel
theorem dX1_daysToRelief_32 : decode cX1_daysToRelief 32 = .ok (.isub, 1) := by decide +kernel
theorem dX1_daysToRelief_33 : decode cX1_daysToRelief 33 = .ok (.invokevirtual 74, 3) := by decide +kernel
theorem dX1_daysToRelief_36 : decode cX1_daysToRelief 36 = .ok (.ifCond .eq 6, 3) := by decide +kernel
theorem dX1_daysToRelief_39 : decode cX1_daysToRelief 39 = .ok (.iinc 2 1, 3) := by decide +kernel
theorem dX1_daysToRelief_42 : decode cX1_daysToRelief 42 = .ok (.iload_n 2, 1) := by decide +kernel
theorem dX1_daysToRelief_43 : decode cX1_daysToRelief 43 = .ok (.iconst 3, 1) := by decide +kernel
theorem dX1_daysToRelief_44 : decode cX1_daysToRelief 44 = .ok (.if_icmp .lt 5, 3) := by decide +kernel
theorem dX1_daysToRelief_47 : decode cX1_daysToRelief 47 = .ok (.iload_n 3, 1) := by decide +kernel
theorem dX1_daysToRelief_48 : decode cX1_daysToRelief 48 = .ok (.ireturn, 1) := by decide +kernel
theorem dX1_daysToRelief_49 : decode cX1_daysToRelief 49 = .ok (.iinc 3 1, 3) := by decide +kernel
theorem dX1_daysToRelief_52 : decode cX1_daysToRelief 52 = .ok (.goto (-33), 3) := by decide +kernel
theorem dX1_daysToRelief_55 : decode cX1_daysToRelief 55 = .ok (.iload_n 1, 1) := by decide +kernel
theorem dX1_daysToRelief_56 : decode cX1_daysToRelief 56 = .ok (.iconst 1, 1) := by decide +kernel
theorem dX1_daysToRelief_57 : decode cX1_daysToRelief 57 = .ok (.iadd, 1) := by decide +kernel
theorem dX1_daysToRelief_58 : decode cX1_daysToRelief 58 = .ok (.ireturn, 1) := by decide +kernel
