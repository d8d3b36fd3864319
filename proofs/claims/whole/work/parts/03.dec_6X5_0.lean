theorem dX5_init_0 : decode cX5_init 0 = .ok (.aload_n 0, 1) := by decide +kernel
theorem dX5_init_1 : decode cX5_init 1 = .ok (.invokespecial 1, 3) := by decide +kernel
theorem dX5_init_4 : decode cX5_init 4 = .ok (.aload_n 0, 1) := by decide +kernel
theorem dX5_init_5 : decode cX5_init 5 = .ok (.new 7, 3) := by decide +kernel
theorem dX5_init_8 : decode cX5_init 8 = .ok (.dup, 1) := by decide +kernel
theorem dX5_init_9 : decode cX5_init 9 = .ok (.invokespecial 9, 3) := by decide +kernel
theorem dX5_init_12 : decode cX5_init 12 = .ok (.putfield 10, 3) := by decide +kernel
theorem dX5_init_15 : decode cX5_init 15 = .ok (.aload_n 0, 1) := by decide +kernel
theorem dX5_init_16 : decode cX5_init 16 = .ok (.new 7, 3) := by decide +kernel
theorem dX5_init_19 : decode cX5_init 19 = .ok (.dup, 1) := by decide +kernel
theorem dX5_init_20 : decode cX5_init 20 = .ok (.invokespecial 9, 3) := by decide +kernel
theorem dX5_init_23 : decode cX5_init 23 = .ok (.putfield 16, 3) := by decide +kernel
theorem dX5_init_26 : decode cX5_init 26 = .ok (.aload_n 0, 1) := by decide +kernel
theorem dX5_init_27 : decode cX5_init 27 = .ok (.new 7, 3) := by decide +kernel
theorem dX5_init_30 : decode cX5_init 30 = .ok (.dup, 1) := by decide +kernel
theorem dX5_init_31 : decode cX5_init 31 = .ok (.invokespecial 9, 3) := by decide +kernel
theorem dX5_init_34 : decode cX5_init 34 = .ok (.putfield 19, 3) := by decide +kernel
theorem dX5_init_37 : decode cX5_init 37 = .ok (.aload_n 0, 1) := by decide +kernel
theorem dX5_init_38 : decode cX5_init 38 = .ok (.iconst 0, 1) := by decide +kernel
theorem dX5_init_39 : decode cX5_init 39 = .ok (.putfield 22, 3) := by decide +kernel
theorem dX5_init_42 : decode cX5_init 42 = .ok (.aload_n 0, 1) := by decide +kernel
theorem dX5_init_43 : decode cX5_init 43 = .ok (.new 26, 3) := by decide +kernel
theorem dX5_init_46 : decode cX5_init 46 = .ok (.dup, 1) := by decide +kernel
theorem dX5_init_47 : decode cX5_init 47 = .ok (.invokespecial 28, 3) := by decide +kernel
theorem dX5_init_50 : decode cX5_init 50 = .ok (.putfield 29, 3) := by decide +kernel
theorem dX5_init_53 : decode cX5_init 53 = .ok (.aload_n 0, 1) := by decide +kernel
theorem dX5_init_54 : decode cX5_init 54 = .ok (.iconst 4, 1) := by decide +kernel
theorem dX5_init_55 : decode cX5_init 55 = .ok (.anewarray 33, 3) := by decide +kernel
theorem dX5_init_58 : decode cX5_init 58 = .ok (.putfield 35, 3) := by decide +kernel
theorem dX5_init_61 : decode cX5_init 61 = .ok (.iconst 0, 1) := by decide +kernel
theorem dX5_init_62 : decode cX5_init 62 = .ok (.istore_n 1, 1) := by decide +kernel
theorem dX5_init_63 : decode cX5_init 63 = .ok (.iload_n 1, 1) := by decide +kernel
theorem dX5_init_64 : decode cX5_init 64 = .ok (.iconst 4, 1) := by decide +kernel
theorem dX5_init_65 : decode cX5_init 65 = .ok (.if_icmp .ge 22, 3) := by decide +kernel
theorem dX5_init_68 : decode cX5_init 68 = .ok (.aload_n 0, 1) := by decide +kernel
theorem dX5_init_69 : decode cX5_init 69 = .ok (.getfield 35, 3) := by decide +kernel
theorem dX5_init_72 : decode cX5_init 72 = .ok (.iload_n 1, 1) := by decide +kernel
theorem dX5_init_73 : decode cX5_init 73 = .ok (.new 33, 3) := by decide +kernel
theorem dX5_init_76 : decode cX5_init 76 = .ok (.dup, 1) := by decide +kernel
theorem dX5_init_77 : decode cX5_init 77 = .ok (.invokespecial 39, 3) := by decide +kernel
theorem dX5_init_80 : decode cX5_init 80 = .ok (.aastore, 1) := by decide +kernel
theorem dX5_init_81 : decode cX5_init 81 = .ok (.iinc 1 1, 3) := by decide +kernel
theorem dX5_init_84 : decode cX5_init 84 = .ok (.goto (-21), 3) := by decide +kernel
theorem dX5_init_87 : decode cX5_init 87 = .ok (.aload_n 0, 1) := by decide +kernel
theorem dX5_init_88 : decode cX5_init 88 = .ok (.bipush 7, 2) := by decide +kernel
theorem dX5_init_90 : decode cX5_init 90 = .ok (.newarray .int, 2) := by decide +kernel
theorem dX5_init_92 : decode cX5_init 92 = .ok (.putfield 40, 3) := by decide +kernel
theorem dX5_init_95 : decode cX5_init 95 = .ok (.return_, 1) := by decide +kernel
theorem dX5_sea_0 : decode cX5_sea 0 = .ok (.iload_n 1, 1) := by decide +kernel
theorem dX5_sea_1 : decode cX5_sea 1 = .ok (.iconst 0, 1) := by decide +kernel
theorem dX5_sea_2 : decode cX5_sea 2 = .ok (.bipush 27, 2) := by decide +kernel
theorem dX5_sea_4 : decode cX5_sea 4 = .ok (.invokestatic 44, 3) := by decide +kernel
theorem dX5_sea_7 : decode cX5_sea 7 = .ok (.ifCond .eq 13, 3) := by decide +kernel
theorem dX5_sea_10 : decode cX5_sea 10 = .ok (.iload_n 2, 1) := by decide +kernel
theorem dX5_sea_11 : decode cX5_sea 11 = .ok (.iconst 0, 1) := by decide +kernel
theorem dX5_sea_12 : decode cX5_sea 12 = .ok (.bipush 12, 2) := by decide +kernel
theorem dX5_sea_14 : decode cX5_sea 14 = .ok (.invokestatic 44, 3) := by decide +kernel
theorem dX5_sea_17 : decode cX5_sea 17 = .ok (.ifCond .ne 10, 3) := by decide +kernel
theorem dX5_sea_20 : decode cX5_sea 20 = .ok (.aload_n 0, 1) := by decide +kernel
theorem dX5_sea_21 : decode cX5_sea 21 = .ok (.ldc 48, 2) := by decide +kernel
theorem dX5_sea_23 : decode cX5_sea 23 = .ok (.invokevirtual 49, 3) := by decide +kernel
theorem dX5_sea_26 : decode cX5_sea 26 = .ok (.ireturn, 1) := by decide +kernel
theorem dX5_sea_27 : decode cX5_sea 27 = .ok (.aload_n 0, 1) := by decide +kernel
theorem dX5_sea_28 : decode cX5_sea 28 = .ok (.getfield 10, 3) := by decide +kernel
theorem dX5_sea_31 : decode cX5_sea 31 = .ok (.getfield 53, 3) := by decide +kernel
theorem dX5_sea_34 : decode cX5_sea 34 = .ok (.iload_n 1, 1) := by decide +kernel
theorem dX5_sea_35 : decode cX5_sea 35 = .ok (.iaload, 1) := by decide +kernel
theorem dX5_sea_36 : decode cX5_sea 36 = .ok (.istore_n 3, 1) := by decide +kernel
theorem dX5_sea_37 : decode cX5_sea 37 = .ok (.aload_n 0, 1) := by decide +kernel
theorem dX5_sea_38 : decode cX5_sea 38 = .ok (.getfield 10, 3) := by decide +kernel
theorem dX5_sea_41 : decode cX5_sea 41 = .ok (.getfield 53, 3) := by decide +kernel
theorem dX5_sea_44 : decode cX5_sea 44 = .ok (.iload_n 1, 1) := by decide +kernel
theorem dX5_sea_45 : decode cX5_sea 45 = .ok (.iload_n 2, 1) := by decide +kernel
theorem dX5_sea_46 : decode cX5_sea 46 = .ok (.iastore, 1) := by decide +kernel
theorem dX5_sea_47 : decode cX5_sea 47 = .ok (.iload_n 3, 1) := by decide +kernel
theorem dX5_sea_48 : decode cX5_sea 48 = .ok (.ireturn, 1) := by decide +kernel
theorem dX5_day_0 : decode cX5_day 0 = .ok (.iload_n 1, 1) := by decide +kernel
theorem dX5_day_1 : decode cX5_day 1 = .ok (.iconst 0, 1) := by decide +kernel
theorem dX5_day_2 : decode cX5_day 2 = .ok (.sipush 9999, 3) := by decide +kernel
theorem dX5_day_5 : decode cX5_day 5 = .ok (.invokestatic 44, 3) := by decide +kernel
theorem dX5_day_8 : decode cX5_day 8 = .ok (.ifCond .ne 10, 3) := by decide +kernel
theorem dX5_day_11 : decode cX5_day 11 = .ok (.aload_n 0, 1) := by decide +kernel
theorem dX5_day_12 : decode cX5_day 12 = .ok (.ldc 48, 2) := by decide +kernel
theorem dX5_day_14 : decode cX5_day 14 = .ok (.invokevirtual 49, 3) := by decide +kernel
theorem dX5_day_17 : decode cX5_day 17 = .ok (.ireturn, 1) := by decide +kernel
theorem dX5_day_18 : decode cX5_day 18 = .ok (.iload_n 2, 1) := by decide +kernel
theorem dX5_day_19 : decode cX5_day 19 = .ok (.tableswitch 60 0 2 #[25, 34, 51], 25) := by decide +kernel
theorem dX5_day_44 : decode cX5_day 44 = .ok (.aload_n 0, 1) := by decide +kernel
theorem dX5_day_45 : decode cX5_day 45 = .ok (.getfield 10, 3) := by decide +kernel
theorem dX5_day_48 : decode cX5_day 48 = .ok (.iload_n 1, 1) := by decide +kernel
theorem dX5_day_49 : decode cX5_day 49 = .ok (.invokevirtual 56, 3) := by decide +kernel
theorem dX5_day_52 : decode cX5_day 52 = .ok (.ireturn, 1) := by decide +kernel
theorem dX5_day_53 : decode cX5_day 53 = .ok (.aload_n 0, 1) := by decide +kernel
theorem dX5_day_54 : decode cX5_day 54 = .ok (.getfield 10, 3) := by decide +kernel
theorem dX5_day_57 : decode cX5_day 57 = .ok (.iload_n 1, 1) := by decide +kernel
theorem dX5_day_58 : decode cX5_day 58 = .ok (.invokevirtual 59, 3) := by decide +kernel
theorem dX5_day_61 : decode cX5_day 61 = .ok (.ifCond .eq 7, 3) := by decide +kernel
theorem dX5_day_64 : decode cX5_day 64 = .ok (.iconst 1, 1) := by decide +kernel
theorem dX5_day_65 : decode cX5_day 65 = .ok (.goto 4, 3) := by decide +kernel
theorem dX5_day_68 : decode cX5_day 68 = .ok (.iconst 0, 1) := by decide +kernel
theorem dX5_day_69 : decode cX5_day 69 = .ok (.ireturn, 1) := by decide +kernel
theorem dX5_day_70 : decode cX5_day 70 = .ok (.aload_n 0, 1) := by decide +kernel
theorem dX5_day_71 : decode cX5_day 71 = .ok (.getfield 10, 3) := by decide +kernel
theorem dX5_day_74 : decode cX5_day 74 = .ok (.iload_n 1, 1) := by decide +kernel
theorem dX5_day_75 : decode cX5_day 75 = .ok (.invokevirtual 63, 3) := by decide +kernel
theorem dX5_day_78 : decode cX5_day 78 = .ok (.ireturn, 1) := by decide +kernel
theorem dX5_day_79 : decode cX5_day 79 = .ok (.aload_n 0, 1) := by decide +kernel
theorem dX5_day_80 : decode cX5_day 80 = .ok (.ldc 48, 2) := by decide +kernel
theorem dX5_day_82 : decode cX5_day 82 = .ok (.invokevirtual 49, 3) := by decide +kernel
theorem dX5_day_85 : decode cX5_day 85 = .ok (.ireturn, 1) := by decide +kernel
theorem dX5_light_0 : decode cX5_light 0 = .ok (.iload_n 1, 1) := by decide +kernel
theorem dX5_light_1 : decode cX5_light 1 = .ok (.iconst 0, 1) := by decide +kernel
theorem dX5_light_2 : decode cX5_light 2 = .ok (.iconst 3, 1) := by decide +kernel
theorem dX5_light_3 : decode cX5_light 3 = .ok (.invokestatic 44, 3) := by decide +kernel
theorem dX5_light_6 : decode cX5_light 6 = .ok (.ifCond .eq 20, 3) := by decide +kernel
theorem dX5_light_9 : decode cX5_light 9 = .ok (.iload_n 2, 1) := by decide +kernel
theorem dX5_light_10 : decode cX5_light 10 = .ok (.getstatic 66, 3) := by decide +kernel
theorem dX5_light_13 : decode cX5_light 13 = .ok (.iload_n 1, 1) := by decide +kernel
theorem dX5_light_14 : decode cX5_light 14 = .ok (.iaload, 1) := by decide +kernel
theorem dX5_light_15 : decode cX5_light 15 = .ok (.getstatic 69, 3) := by decide +kernel
theorem dX5_light_18 : decode cX5_light 18 = .ok (.iload_n 1, 1) := by decide +kernel
theorem dX5_light_19 : decode cX5_light 19 = .ok (.iaload, 1) := by decide +kernel
theorem dX5_light_20 : decode cX5_light 20 = .ok (.invokestatic 44, 3) := by decide +kernel
theorem dX5_light_23 : decode cX5_light 23 = .ok (.ifCond .ne 10, 3) := by decide +kernel
theorem dX5_light_26 : decode cX5_light 26 = .ok (.aload_n 0, 1) := by decide +kernel
theorem dX5_light_27 : decode cX5_light 27 = .ok (.ldc 48, 2) := by decide +kernel
theorem dX5_light_29 : decode cX5_light 29 = .ok (.invokevirtual 49, 3) := by decide +kernel
theorem dX5_light_32 : decode cX5_light 32 = .ok (.ireturn, 1) := by decide +kernel
theorem dX5_light_33 : decode cX5_light 33 = .ok (.aload_n 0, 1) := by decide +kernel
theorem dX5_light_34 : decode cX5_light 34 = .ok (.getfield 10, 3) := by decide +kernel
theorem dX5_light_37 : decode cX5_light 37 = .ok (.iload_n 1, 1) := by decide +kernel
theorem dX5_light_38 : decode cX5_light 38 = .ok (.invokevirtual 72, 3) := by decide +kernel
theorem dX5_light_41 : decode cX5_light 41 = .ok (.istore_n 3, 1) := by decide +kernel
theorem dX5_light_42 : decode cX5_light 42 = .ok (.aload_n 0, 1) := by decide +kernel
theorem dX5_light_43 : decode cX5_light 43 = .ok (.getfield 10, 3) := by decide +kernel
theorem dX5_light_46 : decode cX5_light 46 = .ok (.iload_n 1, 1) := by decide +kernel
theorem dX5_light_47 : decode cX5_light 47 = .ok (.iload_n 2, 1) := by decide +kernel
theorem dX5_light_48 : decode cX5_light 48 = .ok (.invokevirtual 75, 3) := by decide +kernel
theorem dX5_light_51 : decode cX5_light 51 = .ok (.iload_n 3, 1) := by decide +kernel
theorem dX5_light_52 : decode cX5_light 52 = .ok (.ireturn, 1) := by decide +kernel
theorem dX5_keeper_0 : decode cX5_keeper 0 = .ok (.iload_n 1, 1) := by decide +kernel
theorem dX5_keeper_1 : decode cX5_keeper 1 = .ok (.invokestatic 79, 3) := by decide +kernel
theorem dX5_keeper_4 : decode cX5_keeper 4 = .ok (.ifCond .ne 10, 3) := by decide +kernel
theorem dX5_keeper_7 : decode cX5_keeper 7 = .ok (.aload_n 0, 1) := by decide +kernel
theorem dX5_keeper_8 : decode cX5_keeper 8 = .ok (.ldc 48, 2) := by decide +kernel
theorem dX5_keeper_10 : decode cX5_keeper 10 = .ok (.invokevirtual 49, 3) := by decide +kernel
theorem dX5_keeper_13 : decode cX5_keeper 13 = .ok (.ireturn, 1) := by decide +kernel
theorem dX5_keeper_14 : decode cX5_keeper 14 = .ok (.aload_n 0, 1) := by decide +kernel
theorem dX5_keeper_15 : decode cX5_keeper 15 = .ok (.getfield 10, 3) := by decide +kernel
theorem dX5_keeper_18 : decode cX5_keeper 18 = .ok (.invokevirtual 82, 3) := by decide +kernel
theorem dX5_keeper_21 : decode cX5_keeper 21 = .ok (.ifCond .eq 10, 3) := by decide +kernel
theorem dX5_keeper_24 : decode cX5_keeper 24 = .ok (.aload_n 0, 1) := by decide +kernel
theorem dX5_keeper_25 : decode cX5_keeper 25 = .ok (.ldc 86, 2) := by decide +kernel
theorem dX5_keeper_27 : decode cX5_keeper 27 = .ok (.invokevirtual 49, 3) := by decide +kernel
theorem dX5_keeper_30 : decode cX5_keeper 30 = .ok (.ireturn, 1) := by decide +kernel
theorem dX5_keeper_31 : decode cX5_keeper 31 = .ok (.aload_n 0, 1) := by decide +kernel
theorem dX5_keeper_32 : decode cX5_keeper 32 = .ok (.getfield 10, 3) := by decide +kernel
theorem dX5_keeper_35 : decode cX5_keeper 35 = .ok (.iload_n 1, 1) := by decide +kernel
theorem dX5_keeper_36 : decode cX5_keeper 36 = .ok (.invokevirtual 87, 3) := by decide +kernel
theorem dX5_keeper_39 : decode cX5_keeper 39 = .ok (.ireturn, 1) := by decide +kernel
theorem dX5_of_0 : decode cX5_of 0 = .ok (.aload_n 0, 1) := by decide +kernel
theorem dX5_of_1 : decode cX5_of 1 = .ok (.getfield 10, 3) := by decide +kernel
theorem dX5_of_4 : decode cX5_of 4 = .ok (.iload_n 1, 1) := by decide +kernel
theorem dX5_of_5 : decode cX5_of 5 = .ok (.invokevirtual 90, 3) := by decide +kernel
theorem dX5_of_8 : decode cX5_of 8 = .ok (.ifCond .ne 10, 3) := by decide +kernel
theorem dX5_of_11 : decode cX5_of 11 = .ok (.aload_n 0, 1) := by decide +kernel
theorem dX5_of_12 : decode cX5_of 12 = .ok (.ldc 48, 2) := by decide +kernel
theorem dX5_of_14 : decode cX5_of 14 = .ok (.invokevirtual 49, 3) := by decide +kernel
theorem dX5_of_17 : decode cX5_of 17 = .ok (.ireturn, 1) := by decide +kernel
theorem dX5_of_18 : decode cX5_of 18 = .ok (.iload_n 2, 1) := by decide +kernel
theorem dX5_of_19 : decode cX5_of 19 = .ok (.tableswitch 96 0 5 #[37, 47, 57, 67, 77, 87], 37) := by decide +kernel
theorem dX5_of_56 : decode cX5_of 56 = .ok (.aload_n 0, 1) := by decide +kernel
theorem dX5_of_57 : decode cX5_of 57 = .ok (.getfield 10, 3) := by decide +kernel
theorem dX5_of_60 : decode cX5_of 60 = .ok (.getfield 93, 3) := by decide +kernel
theorem dX5_of_63 : decode cX5_of 63 = .ok (.iload_n 1, 1) := by decide +kernel
theorem dX5_of_64 : decode cX5_of 64 = .ok (.iaload, 1) := by decide +kernel
theorem dX5_of_65 : decode cX5_of 65 = .ok (.ireturn, 1) := by decide +kernel
theorem dX5_of_66 : decode cX5_of 66 = .ok (.aload_n 0, 1) := by decide +kernel
theorem dX5_of_67 : decode cX5_of 67 = .ok (.getfield 10, 3) := by decide +kernel
theorem dX5_of_70 : decode cX5_of 70 = .ok (.getfield 96, 3) := by decide +kernel
theorem dX5_of_73 : decode cX5_of 73 = .ok (.iload_n 1, 1) := by decide +kernel
theorem dX5_of_74 : decode cX5_of 74 = .ok (.iaload, 1) := by decide +kernel
theorem dX5_of_75 : decode cX5_of 75 = .ok (.ireturn, 1) := by decide +kernel
theorem dX5_of_76 : decode cX5_of 76 = .ok (.aload_n 0, 1) := by decide +kernel
theorem dX5_of_77 : decode cX5_of 77 = .ok (.getfield 10, 3) := by decide +kernel
theorem dX5_of_80 : decode cX5_of 80 = .ok (.getfield 99, 3) := by decide +kernel
theorem dX5_of_83 : decode cX5_of 83 = .ok (.iload_n 1, 1) := by decide +kernel
theorem dX5_of_84 : decode cX5_of 84 = .ok (.iaload, 1) := by decide +kernel
theorem dX5_of_85 : decode cX5_of 85 = .ok (.ireturn, 1) := by decide +kernel
theorem dX5_of_86 : decode cX5_of 86 = .ok (.aload_n 0, 1) := by decide +kernel
theorem dX5_of_87 : decode cX5_of 87 = .ok (.getfield 10, 3) := by decide +kernel
theorem dX5_of_90 : decode cX5_of 90 = .ok (.getfield 102, 3) := by decide +kernel
theorem dX5_of_93 : decode cX5_of 93 = .ok (.iload_n 1, 1) := by decide +kernel
theorem dX5_of_94 : decode cX5_of 94 = .ok (.iaload, 1) := by decide +kernel
theorem dX5_of_95 : decode cX5_of 95 = .ok (.ireturn, 1) := by decide +kernel
theorem dX5_of_96 : decode cX5_of 96 = .ok (.aload_n 0, 1) := by decide +kernel
theorem dX5_of_97 : decode cX5_of 97 = .ok (.getfield 10, 3) := by decide +kernel
theorem dX5_of_100 : decode cX5_of 100 = .ok (.getfield 105, 3) := by decide +kernel
theorem dX5_of_103 : decode cX5_of 103 = .ok (.iload_n 1, 1) := by decide +kernel
theorem dX5_of_104 : decode cX5_of 104 = .ok (.iaload, 1) := by decide +kernel
theorem dX5_of_105 : decode cX5_of 105 = .ok (.ireturn, 1) := by decide +kernel
theorem dX5_of_106 : decode cX5_of 106 = .ok (.aload_n 0, 1) := by decide +kernel
theorem dX5_of_107 : decode cX5_of 107 = .ok (.getfield 10, 3) := by decide +kernel
theorem dX5_of_110 : decode cX5_of 110 = .ok (.iload_n 1, 1) := by decide +kernel
theorem dX5_of_111 : decode cX5_of 111 = .ok (.invokevirtual 108, 3) := by decide +kernel
theorem dX5_of_114 : decode cX5_of 114 = .ok (.ireturn, 1) := by decide +kernel
theorem dX5_of_115 : decode cX5_of 115 = .ok (.aload_n 0, 1) := by decide +kernel
theorem dX5_of_116 : decode cX5_of 116 = .ok (.ldc 48, 2) := by decide +kernel
theorem dX5_of_118 : decode cX5_of 118 = .ok (.invokevirtual 49, 3) := by decide +kernel
theorem dX5_of_121 : decode cX5_of 121 = .ok (.ireturn, 1) := by decide +kernel
theorem dX5_can_0 : decode cX5_can 0 = .ok (.aload_n 0, 1) := by decide +kernel
theorem dX5_can_1 : decode cX5_can 1 = .ok (.getfield 10, 3) := by decide +kernel
theorem dX5_can_4 : decode cX5_can 4 = .ok (.iload_n 1, 1) := by decide +kernel
theorem dX5_can_5 : decode cX5_can 5 = .ok (.invokevirtual 90, 3) := by decide +kernel
theorem dX5_can_8 : decode cX5_can 8 = .ok (.ifCond .eq 13, 3) := by decide +kernel
theorem dX5_can_11 : decode cX5_can 11 = .ok (.iload_n 3, 1) := by decide +kernel
theorem dX5_can_12 : decode cX5_can 12 = .ok (.iconst 1, 1) := by decide +kernel
theorem dX5_can_13 : decode cX5_can 13 = .ok (.bipush 13, 2) := by decide +kernel
theorem dX5_can_15 : decode cX5_can 15 = .ok (.invokestatic 44, 3) := by decide +kernel
theorem dX5_can_18 : decode cX5_can 18 = .ok (.ifCond .ne 10, 3) := by decide +kernel
theorem dX5_can_21 : decode cX5_can 21 = .ok (.aload_n 0, 1) := by decide +kernel
theorem dX5_can_22 : decode cX5_can 22 = .ok (.ldc 48, 2) := by decide +kernel
theorem dX5_can_24 : decode cX5_can 24 = .ok (.invokevirtual 49, 3) := by decide +kernel
theorem dX5_can_27 : decode cX5_can 27 = .ok (.ireturn, 1) := by decide +kernel
theorem dX5_can_28 : decode cX5_can 28 = .ok (.iload_n 2, 1) := by decide +kernel
theorem dX5_can_29 : decode cX5_can 29 = .ok (.lookupswitch 55 #[(0, 27), (1, 41)], 27) := by decide +kernel
theorem dX5_can_56 : decode cX5_can 56 = .ok (.aload_n 0, 1) := by decide +kernel
theorem dX5_can_57 : decode cX5_can 57 = .ok (.getfield 10, 3) := by decide +kernel
theorem dX5_can_60 : decode cX5_can 60 = .ok (.getfield 93, 3) := by decide +kernel
theorem dX5_can_63 : decode cX5_can 63 = .ok (.iload_n 1, 1) := by decide +kernel
theorem dX5_can_64 : decode cX5_can 64 = .ok (.iaload, 1) := by decide +kernel
theorem dX5_can_65 : decode cX5_can 65 = .ok (.iload_n 3, 1) := by decide +kernel
theorem dX5_can_66 : decode cX5_can 66 = .ok (.invokestatic 111, 3) := by decide +kernel
theorem dX5_can_69 : decode cX5_can 69 = .ok (.ireturn, 1) := by decide +kernel
theorem dX5_can_70 : decode cX5_can 70 = .ok (.aload_n 0, 1) := by decide +kernel
theorem dX5_can_71 : decode cX5_can 71 = .ok (.getfield 10, 3) := by decide +kernel
theorem dX5_can_74 : decode cX5_can 74 = .ok (.getfield 93, 3) := by decide +kernel
theorem dX5_can_77 : decode cX5_can 77 = .ok (.iload_n 1, 1) := by decide +kernel
theorem dX5_can_78 : decode cX5_can 78 = .ok (.iaload, 1) := by decide +kernel
theorem dX5_can_79 : decode cX5_can 79 = .ok (.iload_n 3, 1) := by decide +kernel
theorem dX5_can_80 : decode cX5_can 80 = .ok (.invokestatic 117, 3) := by decide +kernel
theorem dX5_can_83 : decode cX5_can 83 = .ok (.ireturn, 1) := by decide +kernel
theorem dX5_can_84 : decode cX5_can 84 = .ok (.aload_n 0, 1) := by decide +kernel
theorem dX5_can_85 : decode cX5_can 85 = .ok (.ldc 48, 2) := by decide +kernel
theorem dX5_can_87 : decode cX5_can 87 = .ok (.invokevirtual 49, 3) := by decide +kernel
theorem dX5_can_90 : decode cX5_can 90 = .ok (.ireturn, 1) := by decide +kernel
theorem dX5_set_0 : decode cX5_set 0 = .ok (.aload_n 0, 1) := by decide +kernel
theorem dX5_set_1 : decode cX5_set 1 = .ok (.getfield 10, 3) := by decide +kernel
theorem dX5_set_4 : decode cX5_set 4 = .ok (.iload_n 1, 1) := by decide +kernel
theorem dX5_set_5 : decode cX5_set 5 = .ok (.invokevirtual 90, 3) := by decide +kernel
theorem dX5_set_8 : decode cX5_set 8 = .ok (.ifCond .ne 10, 3) := by decide +kernel
theorem dX5_set_11 : decode cX5_set 11 = .ok (.aload_n 0, 1) := by decide +kernel
theorem dX5_set_12 : decode cX5_set 12 = .ok (.ldc 48, 2) := by decide +kernel
theorem dX5_set_14 : decode cX5_set 14 = .ok (.invokevirtual 49, 3) := by decide +kernel
theorem dX5_set_17 : decode cX5_set 17 = .ok (.ireturn, 1) := by decide +kernel
theorem dX5_set_18 : decode cX5_set 18 = .ok (.iload_n 2, 1) := by decide +kernel
theorem dX5_set_19 : decode cX5_set 19 = .ok (.tableswitch 117 1 4 #[29, 117, 57, 87], 29) := by decide +kernel
theorem dX5_set_48 : decode cX5_set 48 = .ok (.iload_n 3, 1) := by decide +kernel
theorem dX5_set_49 : decode cX5_set 49 = .ok (.iconst 0, 1) := by decide +kernel
theorem dX5_set_50 : decode cX5_set 50 = .ok (.iconst 1, 1) := by decide +kernel
theorem dX5_set_51 : decode cX5_set 51 = .ok (.invokestatic 44, 3) := by decide +kernel
theorem dX5_set_54 : decode cX5_set 54 = .ok (.ifCond .eq 15, 3) := by decide +kernel
theorem dX5_set_57 : decode cX5_set 57 = .ok (.aload_n 0, 1) := by decide +kernel
theorem dX5_set_58 : decode cX5_set 58 = .ok (.getfield 10, 3) := by decide +kernel
theorem dX5_set_61 : decode cX5_set 61 = .ok (.iload_n 1, 1) := by decide +kernel
theorem dX5_set_62 : decode cX5_set 62 = .ok (.iload_n 3, 1) := by decide +kernel
theorem dX5_set_63 : decode cX5_set 63 = .ok (.invokevirtual 120, 3) := by decide +kernel
theorem dX5_set_66 : decode cX5_set 66 = .ok (.goto 9, 3) := by decide +kernel
theorem dX5_set_69 : decode cX5_set 69 = .ok (.aload_n 0, 1) := by decide +kernel
theorem dX5_set_70 : decode cX5_set 70 = .ok (.ldc 48, 2) := by decide +kernel
theorem dX5_set_72 : decode cX5_set 72 = .ok (.invokevirtual 49, 3) := by decide +kernel
theorem dX5_set_75 : decode cX5_set 75 = .ok (.ireturn, 1) := by decide +kernel
theorem dX5_set_76 : decode cX5_set 76 = .ok (.iload_n 3, 1) := by decide +kernel
theorem dX5_set_77 : decode cX5_set 77 = .ok (.iconst 0, 1) := by decide +kernel
theorem dX5_set_78 : decode cX5_set 78 = .ok (.sipush 511, 3) := by decide +kernel
theorem dX5_set_81 : decode cX5_set 81 = .ok (.invokestatic 44, 3) := by decide +kernel
theorem dX5_set_84 : decode cX5_set 84 = .ok (.ifCond .eq 15, 3) := by decide +kernel
theorem dX5_set_87 : decode cX5_set 87 = .ok (.aload_n 0, 1) := by decide +kernel
theorem dX5_set_88 : decode cX5_set 88 = .ok (.getfield 10, 3) := by decide +kernel
theorem dX5_set_91 : decode cX5_set 91 = .ok (.iload_n 1, 1) := by decide +kernel
theorem dX5_set_92 : decode cX5_set 92 = .ok (.iload_n 3, 1) := by decide +kernel
theorem dX5_set_93 : decode cX5_set 93 = .ok (.invokevirtual 123, 3) := by decide +kernel
theorem dX5_set_96 : decode cX5_set 96 = .ok (.goto 9, 3) := by decide +kernel
theorem dX5_set_99 : decode cX5_set 99 = .ok (.aload_n 0, 1) := by decide +kernel
theorem dX5_set_100 : decode cX5_set 100 = .ok (.ldc 48, 2) := by decide +kernel
theorem dX5_set_102 : decode cX5_set 102 = .ok (.invokevirtual 49, 3) := by decide +kernel
theorem dX5_set_105 : decode cX5_set 105 = .ok (.ireturn, 1) := by decide +kernel
theorem dX5_set_106 : decode cX5_set 106 = .ok (.iload_n 3, 1) := by decide +kernel
theorem dX5_set_107 : decode cX5_set 107 = .ok (.iconst 0, 1) := by decide +kernel
theorem dX5_set_108 : decode cX5_set 108 = .ok (.sipush 9999, 3) := by decide +kernel
theorem dX5_set_111 : decode cX5_set 111 = .ok (.invokestatic 44, 3) := by decide +kernel
theorem dX5_set_114 : decode cX5_set 114 = .ok (.ifCond .eq 15, 3) := by decide +kernel
theorem dX5_set_117 : decode cX5_set 117 = .ok (.aload_n 0, 1) := by decide +kernel
theorem dX5_set_118 : decode cX5_set 118 = .ok (.getfield 10, 3) := by decide +kernel
theorem dX5_set_121 : decode cX5_set 121 = .ok (.iload_n 1, 1) := by decide +kernel
theorem dX5_set_122 : decode cX5_set 122 = .ok (.iload_n 3, 1) := by decide +kernel
theorem dX5_set_123 : decode cX5_set 123 = .ok (.invokevirtual 126, 3) := by decide +kernel
theorem dX5_set_126 : decode cX5_set 126 = .ok (.goto 9, 3) := by decide +kernel
theorem dX5_set_129 : decode cX5_set 129 = .ok (.aload_n 0, 1) := by decide +kernel
theorem dX5_set_130 : decode cX5_set 130 = .ok (.ldc 48, 2) := by decide +kernel
theorem dX5_set_132 : decode cX5_set 132 = .ok (.invokevirtual 49, 3) := by decide +kernel
theorem dX5_set_135 : decode cX5_set 135 = .ok (.ireturn, 1) := by decide +kernel
theorem dX5_set_136 : decode cX5_set 136 = .ok (.aload_n 0, 1) := by decide +kernel
theorem dX5_set_137 : decode cX5_set 137 = .ok (.ldc 48, 2) := by decide +kernel
theorem dX5_set_139 : decode cX5_set 139 = .ok (.invokevirtual 49, 3) := by decide +kernel
theorem dX5_set_142 : decode cX5_set 142 = .ok (.ireturn, 1) := by decide +kernel
theorem dX5_turn_0 : decode cX5_turn 0 = .ok (.aload_n 0, 1) := by decide +kernel
theorem dX5_turn_1 : decode cX5_turn 1 = .ok (.getfield 10, 3) := by decide +kernel
theorem dX5_turn_4 : decode cX5_turn 4 = .ok (.iload_n 1, 1) := by decide +kernel
theorem dX5_turn_5 : decode cX5_turn 5 = .ok (.invokevirtual 90, 3) := by decide +kernel
theorem dX5_turn_8 : decode cX5_turn 8 = .ok (.ifCond .eq 10, 3) := by decide +kernel
theorem dX5_turn_11 : decode cX5_turn 11 = .ok (.iload_n 2, 1) := by decide +kernel
theorem dX5_turn_12 : decode cX5_turn 12 = .ok (.invokestatic 79, 3) := by decide +kernel
theorem dX5_turn_15 : decode cX5_turn 15 = .ok (.ifCond .ne 10, 3) := by decide +kernel
theorem dX5_turn_18 : decode cX5_turn 18 = .ok (.aload_n 0, 1) := by decide +kernel
theorem dX5_turn_19 : decode cX5_turn 19 = .ok (.ldc 48, 2) := by decide +kernel
theorem dX5_turn_21 : decode cX5_turn 21 = .ok (.invokevirtual 49, 3) := by decide +kernel
theorem dX5_turn_24 : decode cX5_turn 24 = .ok (.ireturn, 1) := by decide +kernel
theorem dX5_turn_25 : decode cX5_turn 25 = .ok (.aload_n 0, 1) := by decide +kernel
theorem dX5_turn_26 : decode cX5_turn 26 = .ok (.getfield 10, 3) := by decide +kernel
theorem dX5_turn_29 : decode cX5_turn 29 = .ok (.getfield 93, 3) := by decide +kernel
theorem dX5_turn_32 : decode cX5_turn 32 = .ok (.iload_n 1, 1) := by decide +kernel
theorem dX5_turn_33 : decode cX5_turn 33 = .ok (.iaload, 1) := by decide +kernel
theorem dX5_turn_34 : decode cX5_turn 34 = .ok (.istore_n 3, 1) := by decide +kernel
theorem dX5_turn_35 : decode cX5_turn 35 = .ok (.aload_n 0, 1) := by decide +kernel
theorem dX5_turn_36 : decode cX5_turn 36 = .ok (.getfield 10, 3) := by decide +kernel
theorem dX5_turn_39 : decode cX5_turn 39 = .ok (.getfield 93, 3) := by decide +kernel
theorem dX5_turn_42 : decode cX5_turn 42 = .ok (.iload_n 1, 1) := by decide +kernel
theorem dX5_turn_43 : decode cX5_turn 43 = .ok (.iload_n 2, 1) := by decide +kernel
theorem dX5_turn_44 : decode cX5_turn 44 = .ok (.iastore, 1) := by decide +kernel
theorem dX5_turn_45 : decode cX5_turn 45 = .ok (.iload_n 3, 1) := by decide +kernel
theorem dX5_turn_46 : decode cX5_turn 46 = .ok (.ireturn, 1) := by decide +kernel
theorem dX5_as_0 : decode cX5_as 0 = .ok (.aload_n 0, 1) := by decide +kernel
theorem dX5_as_1 : decode cX5_as 1 = .ok (.getfield 10, 3) := by decide +kernel
theorem dX5_as_4 : decode cX5_as 4 = .ok (.iload_n 1, 1) := by decide +kernel
theorem dX5_as_5 : decode cX5_as 5 = .ok (.invokevirtual 90, 3) := by decide +kernel
theorem dX5_as_8 : decode cX5_as 8 = .ok (.ifCond .eq 10, 3) := by decide +kernel
theorem dX5_as_11 : decode cX5_as 11 = .ok (.iload_n 2, 1) := by decide +kernel
theorem dX5_as_12 : decode cX5_as 12 = .ok (.invokestatic 79, 3) := by decide +kernel
theorem dX5_as_15 : decode cX5_as 15 = .ok (.ifCond .ne 10, 3) := by decide +kernel
theorem dX5_as_18 : decode cX5_as 18 = .ok (.aload_n 0, 1) := by decide +kernel
theorem dX5_as_19 : decode cX5_as 19 = .ok (.ldc 48, 2) := by decide +kernel
theorem dX5_as_21 : decode cX5_as 21 = .ok (.invokevirtual 49, 3) := by decide +kernel
theorem dX5_as_24 : decode cX5_as 24 = .ok (.ireturn, 1) := by decide +kernel
theorem dX5_as_25 : decode cX5_as 25 = .ok (.aload_n 0, 1) := by decide +kernel
theorem dX5_as_26 : decode cX5_as 26 = .ok (.getfield 10, 3) := by decide +kernel
theorem dX5_as_29 : decode cX5_as 29 = .ok (.getfield 93, 3) := by decide +kernel
theorem dX5_as_32 : decode cX5_as 32 = .ok (.iload_n 1, 1) := by decide +kernel
theorem dX5_as_33 : decode cX5_as 33 = .ok (.iaload, 1) := by decide +kernel
theorem dX5_as_34 : decode cX5_as 34 = .ok (.iload_n 2, 1) := by decide +kernel
theorem dX5_as_35 : decode cX5_as 35 = .ok (.invokestatic 129, 3) := by decide +kernel
theorem dX5_as_38 : decode cX5_as 38 = .ok (.ifCond .ne 10, 3) := by decide +kernel
theorem dX5_as_41 : decode cX5_as 41 = .ok (.aload_n 0, 1) := by decide +kernel
theorem dX5_as_42 : decode cX5_as 42 = .ok (.ldc 133, 2) := by decide +kernel
theorem dX5_as_44 : decode cX5_as 44 = .ok (.invokevirtual 49, 3) := by decide +kernel
theorem dX5_as_47 : decode cX5_as 47 = .ok (.ireturn, 1) := by decide +kernel
theorem dX5_as_48 : decode cX5_as 48 = .ok (.aload_n 0, 1) := by decide +kernel
theorem dX5_as_49 : decode cX5_as 49 = .ok (.getfield 10, 3) := by decide +kernel
theorem dX5_as_52 : decode cX5_as 52 = .ok (.getfield 102, 3) := by decide +kernel
theorem dX5_as_55 : decode cX5_as 55 = .ok (.iload_n 1, 1) := by decide +kernel
theorem dX5_as_56 : decode cX5_as 56 = .ok (.iaload, 1) := by decide +kernel
theorem dX5_as_57 : decode cX5_as 57 = .ok (.ireturn, 1) := by decide +kernel
theorem dX5_days_0 : decode cX5_days 0 = .ok (.iload_n 1, 1) := by decide +kernel
theorem dX5_days_1 : decode cX5_days 1 = .ok (.iconst 1, 1) := by decide +kernel
theorem dX5_days_2 : decode cX5_days 2 = .ok (.bipush 100, 2) := by decide +kernel
theorem dX5_days_4 : decode cX5_days 4 = .ok (.invokestatic 44, 3) := by decide +kernel
theorem dX5_days_7 : decode cX5_days 7 = .ok (.ifCond .ne 10, 3) := by decide +kernel
theorem dX5_days_10 : decode cX5_days 10 = .ok (.aload_n 0, 1) := by decide +kernel
theorem dX5_days_11 : decode cX5_days 11 = .ok (.ldc 48, 2) := by decide +kernel
theorem dX5_days_13 : decode cX5_days 13 = .ok (.invokevirtual 49, 3) := by decide +kernel
theorem dX5_days_16 : decode cX5_days 16 = .ok (.ireturn, 1) := by decide +kernel
theorem dX5_days_17 : decode cX5_days 17 = .ok (.aload_n 0, 1) := by decide +kernel
theorem dX5_days_18 : decode cX5_days 18 = .ok (.getfield 10, 3) := by decide +kernel
theorem dX5_days_21 : decode cX5_days 21 = .ok (.getfield 134, 3) := by decide +kernel
theorem dX5_days_24 : decode cX5_days 24 = .ok (.iload_n 1, 1) := by decide +kernel
theorem dX5_days_25 : decode cX5_days 25 = .ok (.iadd, 1) := by decide +kernel
theorem dX5_days_26 : decode cX5_days 26 = .ok (.sipush 9999, 3) := by decide +kernel
theorem dX5_days_29 : decode cX5_days 29 = .ok (.if_icmp .le 10, 3) := by decide +kernel
theorem dX5_days_32 : decode cX5_days 32 = .ok (.aload_n 0, 1) := by decide +kernel
theorem dX5_days_33 : decode cX5_days 33 = .ok (.ldc 138, 2) := by decide +kernel
theorem dX5_days_35 : decode cX5_days 35 = .ok (.invokevirtual 49, 3) := by decide +kernel
theorem dX5_days_38 : decode cX5_days 38 = .ok (.ireturn, 1) := by decide +kernel
theorem dX5_days_39 : decode cX5_days 39 = .ok (.aload_n 0, 1) := by decide +kernel
theorem dX5_days_40 : decode cX5_days 40 = .ok (.getfield 10, 3) := by decide +kernel
theorem dX5_days_43 : decode cX5_days 43 = .ok (.iload_n 1, 1) := by decide +kernel
theorem dX5_days_44 : decode cX5_days 44 = .ok (.invokevirtual 139, 3) := by decide +kernel
theorem dX5_days_47 : decode cX5_days 47 = .ok (.aload_n 0, 1) := by decide +kernel
theorem dX5_days_48 : decode cX5_days 48 = .ok (.getfield 10, 3) := by decide +kernel
theorem dX5_days_51 : decode cX5_days 51 = .ok (.invokevirtual 143, 3) := by decide +kernel
theorem dX5_days_54 : decode cX5_days 54 = .ok (.ireturn, 1) := by decide +kernel
theorem dX5_now_0 : decode cX5_now 0 = .ok (.iload_n 1, 1) := by decide +kernel
theorem dX5_now_1 : decode cX5_now 1 = .ok (.tableswitch 111 0 7 #[47, 55, 63, 71, 79, 87, 95, 103], 47) := by decide +kernel
theorem dX5_now_48 : decode cX5_now 48 = .ok (.aload_n 0, 1) := by decide +kernel
theorem dX5_now_49 : decode cX5_now 49 = .ok (.getfield 10, 3) := by decide +kernel
theorem dX5_now_52 : decode cX5_now 52 = .ok (.getfield 134, 3) := by decide +kernel
theorem dX5_now_55 : decode cX5_now 55 = .ok (.ireturn, 1) := by decide +kernel
theorem dX5_now_56 : decode cX5_now 56 = .ok (.aload_n 0, 1) := by decide +kernel
theorem dX5_now_57 : decode cX5_now 57 = .ok (.getfield 10, 3) := by decide +kernel
theorem dX5_now_60 : decode cX5_now 60 = .ok (.getfield 147, 3) := by decide +kernel
theorem dX5_now_63 : decode cX5_now 63 = .ok (.ireturn, 1) := by decide +kernel
theorem dX5_now_64 : decode cX5_now 64 = .ok (.aload_n 0, 1) := by decide +kernel
theorem dX5_now_65 : decode cX5_now 65 = .ok (.getfield 10, 3) := by decide +kernel
theorem dX5_now_68 : decode cX5_now 68 = .ok (.getfield 150, 3) := by decide +kernel
theorem dX5_now_71 : decode cX5_now 71 = .ok (.ireturn, 1) := by decide +kernel
theorem dX5_now_72 : decode cX5_now 72 = .ok (.aload_n 0, 1) := by decide +kernel
theorem dX5_now_73 : decode cX5_now 73 = .ok (.getfield 10, 3) := by decide +kernel
theorem dX5_now_76 : decode cX5_now 76 = .ok (.getfield 153, 3) := by decide +kernel
theorem dX5_now_79 : decode cX5_now 79 = .ok (.ireturn, 1) := by decide +kernel
theorem dX5_now_80 : decode cX5_now 80 = .ok (.aload_n 0, 1) := by decide +kernel
theorem dX5_now_81 : decode cX5_now 81 = .ok (.getfield 10, 3) := by decide +kernel
theorem dX5_now_84 : decode cX5_now 84 = .ok (.getfield 156, 3) := by decide +kernel
theorem dX5_now_87 : decode cX5_now 87 = .ok (.ireturn, 1) := by decide +kernel
theorem dX5_now_88 : decode cX5_now 88 = .ok (.aload_n 0, 1) := by decide +kernel
theorem dX5_now_89 : decode cX5_now 89 = .ok (.getfield 10, 3) := by decide +kernel
theorem dX5_now_92 : decode cX5_now 92 = .ok (.getfield 159, 3) := by decide +kernel
theorem dX5_now_95 : decode cX5_now 95 = .ok (.ireturn, 1) := by decide +kernel
theorem dX5_now_96 : decode cX5_now 96 = .ok (.aload_n 0, 1) := by decide +kernel
theorem dX5_now_97 : decode cX5_now 97 = .ok (.getfield 10, 3) := by decide +kernel
theorem dX5_now_100 : decode cX5_now 100 = .ok (.invokevirtual 143, 3) := by decide +kernel
theorem dX5_now_103 : decode cX5_now 103 = .ok (.ireturn, 1) := by decide +kernel
theorem dX5_now_104 : decode cX5_now 104 = .ok (.aload_n 0, 1) := by decide +kernel
theorem dX5_now_105 : decode cX5_now 105 = .ok (.getfield 10, 3) := by decide +kernel
theorem dX5_now_108 : decode cX5_now 108 = .ok (.invokevirtual 162, 3) := by decide +kernel
theorem dX5_now_111 : decode cX5_now 111 = .ok (.ireturn, 1) := by decide +kernel
theorem dX5_now_112 : decode cX5_now 112 = .ok (.aload_n 0, 1) := by decide +kernel
theorem dX5_now_113 : decode cX5_now 113 = .ok (.ldc 48, 2) := by decide +kernel
theorem dX5_now_115 : decode cX5_now 115 = .ok (.invokevirtual 49, 3) := by decide +kernel
theorem dX5_now_118 : decode cX5_now 118 = .ok (.ireturn, 1) := by decide +kernel
theorem dX5_on_0 : decode cX5_on 0 = .ok (.aload_n 0, 1) := by decide +kernel
theorem dX5_on_1 : decode cX5_on 1 = .ok (.getfield 10, 3) := by decide +kernel
theorem dX5_on_4 : decode cX5_on 4 = .ok (.iload_n 1, 1) := by decide +kernel
theorem dX5_on_5 : decode cX5_on 5 = .ok (.invokevirtual 90, 3) := by decide +kernel
theorem dX5_on_8 : decode cX5_on 8 = .ok (.ifCond .eq 23, 3) := by decide +kernel
theorem dX5_on_11 : decode cX5_on 11 = .ok (.iload_n 2, 1) := by decide +kernel
theorem dX5_on_12 : decode cX5_on 12 = .ok (.iconst 0, 1) := by decide +kernel
theorem dX5_on_13 : decode cX5_on 13 = .ok (.sipush 200, 3) := by decide +kernel
theorem dX5_on_16 : decode cX5_on 16 = .ok (.invokestatic 44, 3) := by decide +kernel
theorem dX5_on_19 : decode cX5_on 19 = .ok (.ifCond .eq 12, 3) := by decide +kernel
theorem dX5_on_22 : decode cX5_on 22 = .ok (.iload_n 3, 1) := by decide +kernel
theorem dX5_on_23 : decode cX5_on 23 = .ok (.iconst 0, 1) := by decide +kernel
theorem dX5_on_24 : decode cX5_on 24 = .ok (.iconst 2, 1) := by decide +kernel
theorem dX5_on_25 : decode cX5_on 25 = .ok (.invokestatic 44, 3) := by decide +kernel
theorem dX5_on_28 : decode cX5_on 28 = .ok (.ifCond .ne 10, 3) := by decide +kernel
theorem dX5_on_31 : decode cX5_on 31 = .ok (.aload_n 0, 1) := by decide +kernel
theorem dX5_on_32 : decode cX5_on 32 = .ok (.ldc 48, 2) := by decide +kernel
theorem dX5_on_34 : decode cX5_on 34 = .ok (.invokevirtual 49, 3) := by decide +kernel
theorem dX5_on_37 : decode cX5_on 37 = .ok (.ireturn, 1) := by decide +kernel
theorem dX5_on_38 : decode cX5_on 38 = .ok (.aload_n 0, 1) := by decide +kernel
theorem dX5_on_39 : decode cX5_on 39 = .ok (.invokevirtual 165, 3) := by decide +kernel
theorem dX5_on_42 : decode cX5_on 42 = .ok (.aload_n 0, 1) := by decide +kernel
theorem dX5_on_43 : decode cX5_on 43 = .ok (.getfield 16, 3) := by decide +kernel
theorem dX5_on_46 : decode cX5_on 46 = .ok (.iload_n 2, 1) := by decide +kernel
theorem dX5_on_47 : decode cX5_on 47 = .ok (.invokevirtual 139, 3) := by decide +kernel
theorem dX5_on_50 : decode cX5_on 50 = .ok (.iload_n 3, 1) := by decide +kernel
theorem dX5_on_51 : decode cX5_on 51 = .ok (.lookupswitch 45 #[(0, 25), (1, 35)], 25) := by decide +kernel
theorem dX5_on_76 : decode cX5_on 76 = .ok (.aload_n 0, 1) := by decide +kernel
theorem dX5_on_77 : decode cX5_on 77 = .ok (.getfield 16, 3) := by decide +kernel
theorem dX5_on_80 : decode cX5_on 80 = .ok (.getfield 96, 3) := by decide +kernel
theorem dX5_on_83 : decode cX5_on 83 = .ok (.iload_n 1, 1) := by decide +kernel
theorem dX5_on_84 : decode cX5_on 84 = .ok (.iaload, 1) := by decide +kernel
theorem dX5_on_85 : decode cX5_on 85 = .ok (.ireturn, 1) := by decide +kernel
theorem dX5_on_86 : decode cX5_on 86 = .ok (.aload_n 0, 1) := by decide +kernel
theorem dX5_on_87 : decode cX5_on 87 = .ok (.getfield 16, 3) := by decide +kernel
theorem dX5_on_90 : decode cX5_on 90 = .ok (.getfield 102, 3) := by decide +kernel
theorem dX5_on_93 : decode cX5_on 93 = .ok (.iload_n 1, 1) := by decide +kernel
theorem dX5_on_94 : decode cX5_on 94 = .ok (.iaload, 1) := by decide +kernel
theorem dX5_on_95 : decode cX5_on 95 = .ok (.ireturn, 1) := by decide +kernel
theorem dX5_on_96 : decode cX5_on 96 = .ok (.aload_n 0, 1) := by decide +kernel
theorem dX5_on_97 : decode cX5_on 97 = .ok (.getfield 16, 3) := by decide +kernel
theorem dX5_on_100 : decode cX5_on 100 = .ok (.getfield 105, 3) := by decide +kernel
theorem dX5_on_103 : decode cX5_on 103 = .ok (.iload_n 1, 1) := by decide +kernel
theorem dX5_on_104 : decode cX5_on 104 = .ok (.iaload, 1) := by decide +kernel
theorem dX5_on_105 : decode cX5_on 105 = .ok (.ireturn, 1) := by decide +kernel
theorem dX5_oil_0 : decode cX5_oil 0 = .ok (.iload_n 1, 1) := by decide +kernel
theorem dX5_oil_1 : decode cX5_oil 1 = .ok (.iconst 0, 1) := by decide +kernel
theorem dX5_oil_2 : decode cX5_oil 2 = .ok (.sipush 200, 3) := by decide +kernel
theorem dX5_oil_5 : decode cX5_oil 5 = .ok (.invokestatic 44, 3) := by decide +kernel
theorem dX5_oil_8 : decode cX5_oil 8 = .ok (.ifCond .ne 10, 3) := by decide +kernel
theorem dX5_oil_11 : decode cX5_oil 11 = .ok (.aload_n 0, 1) := by decide +kernel
theorem dX5_oil_12 : decode cX5_oil 12 = .ok (.ldc 48, 2) := by decide +kernel
theorem dX5_oil_14 : decode cX5_oil 14 = .ok (.invokevirtual 49, 3) := by decide +kernel
theorem dX5_oil_17 : decode cX5_oil 17 = .ok (.ireturn, 1) := by decide +kernel
theorem dX5_oil_18 : decode cX5_oil 18 = .ok (.aload_n 0, 1) := by decide +kernel
theorem dX5_oil_19 : decode cX5_oil 19 = .ok (.invokevirtual 165, 3) := by decide +kernel
theorem dX5_oil_22 : decode cX5_oil 22 = .ok (.aload_n 0, 1) := by decide +kernel
theorem dX5_oil_23 : decode cX5_oil 23 = .ok (.getfield 16, 3) := by decide +kernel
theorem dX5_oil_26 : decode cX5_oil 26 = .ok (.iload_n 1, 1) := by decide +kernel
theorem dX5_oil_27 : decode cX5_oil 27 = .ok (.invokevirtual 139, 3) := by decide +kernel
theorem dX5_oil_30 : decode cX5_oil 30 = .ok (.aload_n 0, 1) := by decide +kernel
theorem dX5_oil_31 : decode cX5_oil 31 = .ok (.getfield 16, 3) := by decide +kernel
theorem dX5_oil_34 : decode cX5_oil 34 = .ok (.getfield 150, 3) := by decide +kernel
theorem dX5_oil_37 : decode cX5_oil 37 = .ok (.ireturn, 1) := by decide +kernel
theorem dX5_relief_0 : decode cX5_relief 0 = .ok (.aload_n 0, 1) := by decide +kernel
theorem dX5_relief_1 : decode cX5_relief 1 = .ok (.getfield 10, 3) := by decide +kernel
theorem dX5_relief_4 : decode cX5_relief 4 = .ok (.sipush 200, 3) := by decide +kernel
theorem dX5_relief_7 : decode cX5_relief 7 = .ok (.invokevirtual 168, 3) := by decide +kernel
theorem dX5_relief_10 : decode cX5_relief 10 = .ok (.istore_n 1, 1) := by decide +kernel
theorem dX5_relief_11 : decode cX5_relief 11 = .ok (.iload_n 1, 1) := by decide +kernel
theorem dX5_relief_12 : decode cX5_relief 12 = .ok (.sipush 200, 3) := by decide +kernel
theorem dX5_relief_15 : decode cX5_relief 15 = .ok (.if_icmp .le 12, 3) := by decide +kernel
theorem dX5_relief_18 : decode cX5_relief 18 = .ok (.aload_n 0, 1) := by decide +kernel
theorem dX5_relief_19 : decode cX5_relief 19 = .ok (.ldc 171, 2) := by decide +kernel
theorem dX5_relief_21 : decode cX5_relief 21 = .ok (.invokevirtual 49, 3) := by decide +kernel
theorem dX5_relief_24 : decode cX5_relief 24 = .ok (.goto 4, 3) := by decide +kernel
theorem dX5_relief_27 : decode cX5_relief 27 = .ok (.iload_n 1, 1) := by decide +kernel
theorem dX5_relief_28 : decode cX5_relief 28 = .ok (.ireturn, 1) := by decide +kernel
theorem dX5_ashore_0 : decode cX5_ashore 0 = .ok (.aload_n 0, 1) := by decide +kernel
theorem dX5_ashore_1 : decode cX5_ashore 1 = .ok (.getfield 10, 3) := by decide +kernel
theorem dX5_ashore_4 : decode cX5_ashore 4 = .ok (.iload_n 1, 1) := by decide +kernel
theorem dX5_ashore_5 : decode cX5_ashore 5 = .ok (.invokevirtual 90, 3) := by decide +kernel
theorem dX5_ashore_8 : decode cX5_ashore 8 = .ok (.ifCond .ne 10, 3) := by decide +kernel
theorem dX5_ashore_11 : decode cX5_ashore 11 = .ok (.aload_n 0, 1) := by decide +kernel
theorem dX5_ashore_12 : decode cX5_ashore 12 = .ok (.ldc 48, 2) := by decide +kernel
theorem dX5_ashore_14 : decode cX5_ashore 14 = .ok (.invokevirtual 49, 3) := by decide +kernel
theorem dX5_ashore_17 : decode cX5_ashore 17 = .ok (.ireturn, 1) := by decide +kernel
theorem dX5_ashore_18 : decode cX5_ashore 18 = .ok (.aload_n 0, 1) := by decide +kernel
theorem dX5_ashore_19 : decode cX5_ashore 19 = .ok (.invokevirtual 165, 3) := by decide +kernel
theorem dX5_ashore_22 : decode cX5_ashore 22 = .ok (.iconst 0, 1) := by decide +kernel
theorem dX5_ashore_23 : decode cX5_ashore 23 = .ok (.istore_n 2, 1) := by decide +kernel
theorem dX5_ashore_24 : decode cX5_ashore 24 = .ok (.iload_n 2, 1) := by decide +kernel
theorem dX5_ashore_25 : decode cX5_ashore 25 = .ok (.sipush 200, 3) := by decide +kernel
theorem dX5_ashore_28 : decode cX5_ashore 28 = .ok (.if_icmp .gt 30, 3) := by decide +kernel
theorem dX5_ashore_31 : decode cX5_ashore 31 = .ok (.aload_n 0, 1) := by decide +kernel
theorem dX5_ashore_32 : decode cX5_ashore 32 = .ok (.getfield 16, 3) := by decide +kernel
theorem dX5_ashore_35 : decode cX5_ashore 35 = .ok (.getfield 96, 3) := by decide +kernel
theorem dX5_ashore_38 : decode cX5_ashore 38 = .ok (.iload_n 1, 1) := by decide +kernel
theorem dX5_ashore_39 : decode cX5_ashore 39 = .ok (.iaload, 1) := by decide +kernel
theorem dX5_ashore_40 : decode cX5_ashore 40 = .ok (.ifCond .ne 5, 3) := by decide +kernel
theorem dX5_ashore_43 : decode cX5_ashore 43 = .ok (.iload_n 2, 1) := by decide +kernel
theorem dX5_ashore_44 : decode cX5_ashore 44 = .ok (.ireturn, 1) := by decide +kernel
theorem dX5_ashore_45 : decode cX5_ashore 45 = .ok (.aload_n 0, 1) := by decide +kernel
theorem dX5_ashore_46 : decode cX5_ashore 46 = .ok (.getfield 16, 3) := by decide +kernel
theorem dX5_ashore_49 : decode cX5_ashore 49 = .ok (.invokevirtual 172, 3) := by decide +kernel
theorem dX5_ashore_52 : decode cX5_ashore 52 = .ok (.iinc 2 1, 3) := by decide +kernel
theorem dX5_ashore_55 : decode cX5_ashore 55 = .ok (.goto (-31), 3) := by decide +kernel
theorem dX5_ashore_58 : decode cX5_ashore 58 = .ok (.aload_n 0, 1) := by decide +kernel
theorem dX5_ashore_59 : decode cX5_ashore 59 = .ok (.ldc 171, 2) := by decide +kernel
theorem dX5_ashore_61 : decode cX5_ashore 61 = .ok (.invokevirtual 49, 3) := by decide +kernel
theorem dX5_ashore_64 : decode cX5_ashore 64 = .ok (.ireturn, 1) := by decide +kernel
theorem dX5_knows_0 : decode cX5_knows 0 = .ok (.aload_n 0, 1) := by decide +kernel
theorem dX5_knows_1 : decode cX5_knows 1 = .ok (.getfield 10, 3) := by decide +kernel
theorem dX5_knows_4 : decode cX5_knows 4 = .ok (.iload_n 1, 1) := by decide +kernel
theorem dX5_knows_5 : decode cX5_knows 5 = .ok (.invokevirtual 90, 3) := by decide +kernel
theorem dX5_knows_8 : decode cX5_knows 8 = .ok (.ifCond .eq 10, 3) := by decide +kernel
theorem dX5_knows_11 : decode cX5_knows 11 = .ok (.iload_n 2, 1) := by decide +kernel
theorem dX5_knows_12 : decode cX5_knows 12 = .ok (.invokestatic 175, 3) := by decide +kernel
theorem dX5_knows_15 : decode cX5_knows 15 = .ok (.ifCond .ne 10, 3) := by decide +kernel
theorem dX5_knows_18 : decode cX5_knows 18 = .ok (.aload_n 0, 1) := by decide +kernel
theorem dX5_knows_19 : decode cX5_knows 19 = .ok (.ldc 48, 2) := by decide +kernel
theorem dX5_knows_21 : decode cX5_knows 21 = .ok (.invokevirtual 49, 3) := by decide +kernel
theorem dX5_knows_24 : decode cX5_knows 24 = .ok (.ireturn, 1) := by decide +kernel
theorem dX5_knows_25 : decode cX5_knows 25 = .ok (.aload_n 0, 1) := by decide +kernel
theorem dX5_knows_26 : decode cX5_knows 26 = .ok (.invokevirtual 165, 3) := by decide +kernel
theorem dX5_knows_29 : decode cX5_knows 29 = .ok (.iconst 0, 1) := by decide +kernel
theorem dX5_knows_30 : decode cX5_knows 30 = .ok (.istore_n 3, 1) := by decide +kernel
theorem dX5_knows_31 : decode cX5_knows 31 = .ok (.iload_n 3, 1) := by decide +kernel
theorem dX5_knows_32 : decode cX5_knows 32 = .ok (.sipush 200, 3) := by decide +kernel
theorem dX5_knows_35 : decode cX5_knows 35 = .ok (.if_icmp .gt 30, 3) := by decide +kernel
theorem dX5_knows_38 : decode cX5_knows 38 = .ok (.aload_n 0, 1) := by decide +kernel
theorem dX5_knows_39 : decode cX5_knows 39 = .ok (.getfield 16, 3) := by decide +kernel
theorem dX5_knows_42 : decode cX5_knows 42 = .ok (.iload_n 1, 1) := by decide +kernel
theorem dX5_knows_43 : decode cX5_knows 43 = .ok (.iload_n 2, 1) := by decide +kernel
theorem dX5_knows_44 : decode cX5_knows 44 = .ok (.invokevirtual 178, 3) := by decide +kernel
theorem dX5_knows_47 : decode cX5_knows 47 = .ok (.ifCond .eq 5, 3) := by decide +kernel
theorem dX5_knows_50 : decode cX5_knows 50 = .ok (.iload_n 3, 1) := by decide +kernel
theorem dX5_knows_51 : decode cX5_knows 51 = .ok (.ireturn, 1) := by decide +kernel
theorem dX5_knows_52 : decode cX5_knows 52 = .ok (.aload_n 0, 1) := by decide +kernel
theorem dX5_knows_53 : decode cX5_knows 53 = .ok (.getfield 16, 3) := by decide +kernel
theorem dX5_knows_56 : decode cX5_knows 56 = .ok (.invokevirtual 172, 3) := by decide +kernel
theorem dX5_knows_59 : decode cX5_knows 59 = .ok (.iinc 3 1, 3) := by decide +kernel
theorem dX5_knows_62 : decode cX5_knows 62 = .ok (.goto (-31), 3) := by decide +kernel
theorem dX5_knows_65 : decode cX5_knows 65 = .ok (.aload_n 0, 1) := by decide +kernel
theorem dX5_knows_66 : decode cX5_knows 66 = .ok (.ldc 171, 2) := by decide +kernel
theorem dX5_knows_68 : decode cX5_knows 68 = .ok (.invokevirtual 49, 3) := by decide +kernel
theorem dX5_knows_71 : decode cX5_knows 71 = .ok (.ireturn, 1) := by decide +kernel
theorem dX5_dark_0 : decode cX5_dark 0 = .ok (.aload_n 0, 1) := by decide +kernel
theorem dX5_dark_1 : decode cX5_dark 1 = .ok (.invokevirtual 165, 3) := by decide +kernel
theorem dX5_dark_4 : decode cX5_dark 4 = .ok (.iconst 1, 1) := by decide +kernel
theorem dX5_dark_5 : decode cX5_dark 5 = .ok (.istore_n 1, 1) := by decide +kernel
theorem dX5_dark_6 : decode cX5_dark 6 = .ok (.iload_n 1, 1) := by decide +kernel
theorem dX5_dark_7 : decode cX5_dark 7 = .ok (.sipush 200, 3) := by decide +kernel
theorem dX5_dark_10 : decode cX5_dark 10 = .ok (.if_icmp .gt 35, 3) := by decide +kernel
theorem dX5_dark_13 : decode cX5_dark 13 = .ok (.aload_n 0, 1) := by decide +kernel
theorem dX5_dark_14 : decode cX5_dark 14 = .ok (.getfield 16, 3) := by decide +kernel
theorem dX5_dark_17 : decode cX5_dark 17 = .ok (.invokevirtual 172, 3) := by decide +kernel
theorem dX5_dark_20 : decode cX5_dark 20 = .ok (.aload_n 0, 1) := by decide +kernel
theorem dX5_dark_21 : decode cX5_dark 21 = .ok (.getfield 16, 3) := by decide +kernel
theorem dX5_dark_24 : decode cX5_dark 24 = .ok (.getfield 159, 3) := by decide +kernel
theorem dX5_dark_27 : decode cX5_dark 27 = .ok (.aload_n 0, 1) := by decide +kernel
theorem dX5_dark_28 : decode cX5_dark 28 = .ok (.getfield 10, 3) := by decide +kernel
theorem dX5_dark_31 : decode cX5_dark 31 = .ok (.getfield 159, 3) := by decide +kernel
theorem dX5_dark_34 : decode cX5_dark 34 = .ok (.if_icmp .le 5, 3) := by decide +kernel
theorem dX5_dark_37 : decode cX5_dark 37 = .ok (.iload_n 1, 1) := by decide +kernel
theorem dX5_dark_38 : decode cX5_dark 38 = .ok (.ireturn, 1) := by decide +kernel
theorem dX5_dark_39 : decode cX5_dark 39 = .ok (.iinc 1 1, 3) := by decide +kernel
theorem dX5_dark_42 : decode cX5_dark 42 = .ok (.goto (-36), 3) := by decide +kernel
theorem dX5_dark_45 : decode cX5_dark 45 = .ok (.aload_n 0, 1) := by decide +kernel
theorem dX5_dark_46 : decode cX5_dark 46 = .ok (.ldc 171, 2) := by decide +kernel
theorem dX5_dark_48 : decode cX5_dark 48 = .ok (.invokevirtual 49, 3) := by decide +kernel
theorem dX5_dark_51 : decode cX5_dark 51 = .ok (.ireturn, 1) := by decide +kernel
theorem dX5_meet_0 : decode cX5_meet 0 = .ok (.aload_n 0, 1) := by decide +kernel
theorem dX5_meet_1 : decode cX5_meet 1 = .ok (.getfield 10, 3) := by decide +kernel
theorem dX5_meet_4 : decode cX5_meet 4 = .ok (.iload_n 1, 1) := by decide +kernel
theorem dX5_meet_5 : decode cX5_meet 5 = .ok (.invokevirtual 90, 3) := by decide +kernel
theorem dX5_meet_8 : decode cX5_meet 8 = .ok (.ifCond .eq 19, 3) := by decide +kernel
theorem dX5_meet_11 : decode cX5_meet 11 = .ok (.aload_n 0, 1) := by decide +kernel
theorem dX5_meet_12 : decode cX5_meet 12 = .ok (.getfield 10, 3) := by decide +kernel
theorem dX5_meet_15 : decode cX5_meet 15 = .ok (.iload_n 2, 1) := by decide +kernel
theorem dX5_meet_16 : decode cX5_meet 16 = .ok (.invokevirtual 90, 3) := by decide +kernel
theorem dX5_meet_19 : decode cX5_meet 19 = .ok (.ifCond .eq 8, 3) := by decide +kernel
theorem dX5_meet_22 : decode cX5_meet 22 = .ok (.iload_n 1, 1) := by decide +kernel
theorem dX5_meet_23 : decode cX5_meet 23 = .ok (.iload_n 2, 1) := by decide +kernel
theorem dX5_meet_24 : decode cX5_meet 24 = .ok (.if_icmp .ne 10, 3) := by decide +kernel
theorem dX5_meet_27 : decode cX5_meet 27 = .ok (.aload_n 0, 1) := by decide +kernel
theorem dX5_meet_28 : decode cX5_meet 28 = .ok (.ldc 48, 2) := by decide +kernel
theorem dX5_meet_30 : decode cX5_meet 30 = .ok (.invokevirtual 49, 3) := by decide +kernel
theorem dX5_meet_33 : decode cX5_meet 33 = .ok (.ireturn, 1) := by decide +kernel
theorem dX5_meet_34 : decode cX5_meet 34 = .ok (.aload_n 0, 1) := by decide +kernel
theorem dX5_meet_35 : decode cX5_meet 35 = .ok (.invokevirtual 165, 3) := by decide +kernel
theorem dX5_meet_38 : decode cX5_meet 38 = .ok (.iconst 1, 1) := by decide +kernel
theorem dX5_meet_39 : decode cX5_meet 39 = .ok (.istore_n 3, 1) := by decide +kernel
theorem dX5_meet_40 : decode cX5_meet 40 = .ok (.iload_n 3, 1) := by decide +kernel
theorem dX5_meet_41 : decode cX5_meet 41 = .ok (.sipush 200, 3) := by decide +kernel
theorem dX5_meet_44 : decode cX5_meet 44 = .ok (.if_icmp .gt 30, 3) := by decide +kernel
theorem dX5_meet_47 : decode cX5_meet 47 = .ok (.aload_n 0, 1) := by decide +kernel
theorem dX5_meet_48 : decode cX5_meet 48 = .ok (.getfield 16, 3) := by decide +kernel
theorem dX5_meet_51 : decode cX5_meet 51 = .ok (.invokevirtual 172, 3) := by decide +kernel
theorem dX5_meet_54 : decode cX5_meet 54 = .ok (.aload_n 0, 1) := by decide +kernel
theorem dX5_meet_55 : decode cX5_meet 55 = .ok (.getfield 16, 3) := by decide +kernel
theorem dX5_meet_58 : decode cX5_meet 58 = .ok (.iload_n 1, 1) := by decide +kernel
theorem dX5_meet_59 : decode cX5_meet 59 = .ok (.iload_n 2, 1) := by decide +kernel
theorem dX5_meet_60 : decode cX5_meet 60 = .ok (.invokevirtual 181, 3) := by decide +kernel
theorem dX5_meet_63 : decode cX5_meet 63 = .ok (.ifCond .eq 5, 3) := by decide +kernel
theorem dX5_meet_66 : decode cX5_meet 66 = .ok (.iload_n 3, 1) := by decide +kernel
theorem dX5_meet_67 : decode cX5_meet 67 = .ok (.ireturn, 1) := by decide +kernel
theorem dX5_meet_68 : decode cX5_meet 68 = .ok (.iinc 3 1, 3) := by decide +kernel
theorem dX5_meet_71 : decode cX5_meet 71 = .ok (.goto (-31), 3) := by decide +kernel
theorem dX5_meet_74 : decode cX5_meet 74 = .ok (.aload_n 0, 1) := by decide +kernel
theorem dX5_meet_75 : decode cX5_meet 75 = .ok (.ldc 171, 2) := by decide +kernel
theorem dX5_meet_77 : decode cX5_meet 77 = .ok (.invokevirtual 49, 3) := by decide +kernel
theorem dX5_meet_80 : decode cX5_meet 80 = .ok (.ireturn, 1) := by decide +kernel
theorem dX5_rock_0 : decode cX5_rock 0 = .ok (.iload_n 1, 1) := by decide +kernel
theorem dX5_rock_1 : decode cX5_rock 1 = .ok (.iconst 1, 1) := by decide +kernel
theorem dX5_rock_2 : decode cX5_rock 2 = .ok (.bipush 100, 2) := by decide +kernel
theorem dX5_rock_4 : decode cX5_rock 4 = .ok (.invokestatic 44, 3) := by decide +kernel
theorem dX5_rock_7 : decode cX5_rock 7 = .ok (.ifCond .ne 10, 3) := by decide +kernel
theorem dX5_rock_10 : decode cX5_rock 10 = .ok (.aload_n 0, 1) := by decide +kernel
theorem dX5_rock_11 : decode cX5_rock 11 = .ok (.ldc 48, 2) := by decide +kernel
theorem dX5_rock_13 : decode cX5_rock 13 = .ok (.invokevirtual 49, 3) := by decide +kernel
theorem dX5_rock_16 : decode cX5_rock 16 = .ok (.ireturn, 1) := by decide +kernel
theorem dX5_rock_17 : decode cX5_rock 17 = .ok (.aload_n 0, 1) := by decide +kernel
theorem dX5_rock_18 : decode cX5_rock 18 = .ok (.invokevirtual 165, 3) := by decide +kernel
theorem dX5_rock_21 : decode cX5_rock 21 = .ok (.bipush 12, 2) := by decide +kernel
theorem dX5_rock_23 : decode cX5_rock 23 = .ok (.istore_n 2, 1) := by decide +kernel
theorem dX5_rock_24 : decode cX5_rock 24 = .ok (.iload_n 2, 1) := by decide +kernel
theorem dX5_rock_25 : decode cX5_rock 25 = .ok (.ifCond .lt 31, 3) := by decide +kernel
theorem dX5_rock_28 : decode cX5_rock 28 = .ok (.aload_n 0, 1) := by decide +kernel
theorem dX5_rock_29 : decode cX5_rock 29 = .ok (.getfield 16, 3) := by decide +kernel
theorem dX5_rock_32 : decode cX5_rock 32 = .ok (.iload_n 2, 1) := by decide +kernel
theorem dX5_rock_33 : decode cX5_rock 33 = .ok (.putfield 147, 3) := by decide +kernel
theorem dX5_rock_36 : decode cX5_rock 36 = .ok (.aload_n 0, 1) := by decide +kernel
theorem dX5_rock_37 : decode cX5_rock 37 = .ok (.getfield 16, 3) := by decide +kernel
theorem dX5_rock_40 : decode cX5_rock 40 = .ok (.iload_n 1, 1) := by decide +kernel
theorem dX5_rock_41 : decode cX5_rock 41 = .ok (.invokevirtual 168, 3) := by decide +kernel
theorem dX5_rock_44 : decode cX5_rock 44 = .ok (.iload_n 1, 1) := by decide +kernel
theorem dX5_rock_45 : decode cX5_rock 45 = .ok (.if_icmp .gt 5, 3) := by decide +kernel
theorem dX5_rock_48 : decode cX5_rock 48 = .ok (.iload_n 2, 1) := by decide +kernel
theorem dX5_rock_49 : decode cX5_rock 49 = .ok (.ireturn, 1) := by decide +kernel
theorem dX5_rock_50 : decode cX5_rock 50 = .ok (.iinc 2 (-1), 3) := by decide +kernel
theorem dX5_rock_53 : decode cX5_rock 53 = .ok (.goto (-29), 3) := by decide +kernel
theorem dX5_rock_56 : decode cX5_rock 56 = .ok (.aload_n 0, 1) := by decide +kernel
theorem dX5_rock_57 : decode cX5_rock 57 = .ok (.ldc 171, 2) := by decide +kernel
theorem dX5_rock_59 : decode cX5_rock 59 = .ok (.invokevirtual 49, 3) := by decide +kernel
theorem dX5_rock_62 : decode cX5_rock 62 = .ok (.ireturn, 1) := by decide +kernel
theorem dX5_kind_0 : decode cX5_kind 0 = .ok (.aload_n 0, 1) := by decide +kernel
theorem dX5_kind_1 : decode cX5_kind 1 = .ok (.getfield 10, 3) := by decide +kernel
theorem dX5_kind_4 : decode cX5_kind 4 = .ok (.iload_n 1, 1) := by decide +kernel
theorem dX5_kind_5 : decode cX5_kind 5 = .ok (.invokevirtual 90, 3) := by decide +kernel
theorem dX5_kind_8 : decode cX5_kind 8 = .ok (.ifCond .eq 13, 3) := by decide +kernel
theorem dX5_kind_11 : decode cX5_kind 11 = .ok (.iload_n 2, 1) := by decide +kernel
theorem dX5_kind_12 : decode cX5_kind 12 = .ok (.iconst 1, 1) := by decide +kernel
theorem dX5_kind_13 : decode cX5_kind 13 = .ok (.bipush 100, 2) := by decide +kernel
theorem dX5_kind_15 : decode cX5_kind 15 = .ok (.invokestatic 44, 3) := by decide +kernel
theorem dX5_kind_18 : decode cX5_kind 18 = .ok (.ifCond .ne 10, 3) := by decide +kernel
theorem dX5_kind_21 : decode cX5_kind 21 = .ok (.aload_n 0, 1) := by decide +kernel
theorem dX5_kind_22 : decode cX5_kind 22 = .ok (.ldc 48, 2) := by decide +kernel
theorem dX5_kind_24 : decode cX5_kind 24 = .ok (.invokevirtual 49, 3) := by decide +kernel
theorem dX5_kind_27 : decode cX5_kind 27 = .ok (.ireturn, 1) := by decide +kernel
theorem dX5_kind_28 : decode cX5_kind 28 = .ok (.iconst 0, 1) := by decide +kernel
theorem dX5_kind_29 : decode cX5_kind 29 = .ok (.istore_n 3, 1) := by decide +kernel
theorem dX5_kind_30 : decode cX5_kind 30 = .ok (.iconst (-1), 1) := by decide +kernel
theorem dX5_kind_31 : decode cX5_kind 31 = .ok (.istore 4, 2) := by decide +kernel
theorem dX5_kind_33 : decode cX5_kind 33 = .ok (.iconst 0, 1) := by decide +kernel
theorem dX5_kind_34 : decode cX5_kind 34 = .ok (.istore 5, 2) := by decide +kernel
theorem dX5_kind_36 : decode cX5_kind 36 = .ok (.iload 5, 2) := by decide +kernel
theorem dX5_kind_38 : decode cX5_kind 38 = .ok (.bipush 6, 2) := by decide +kernel
theorem dX5_kind_40 : decode cX5_kind 40 = .ok (.if_icmp .ge 60, 3) := by decide +kernel
theorem dX5_kind_43 : decode cX5_kind 43 = .ok (.aload_n 0, 1) := by decide +kernel
theorem dX5_kind_44 : decode cX5_kind 44 = .ok (.invokevirtual 165, 3) := by decide +kernel
theorem dX5_kind_47 : decode cX5_kind 47 = .ok (.aload_n 0, 1) := by decide +kernel
theorem dX5_kind_48 : decode cX5_kind 48 = .ok (.getfield 16, 3) := by decide +kernel
theorem dX5_kind_51 : decode cX5_kind 51 = .ok (.getfield 93, 3) := by decide +kernel
theorem dX5_kind_54 : decode cX5_kind 54 = .ok (.iload_n 1, 1) := by decide +kernel
theorem dX5_kind_55 : decode cX5_kind 55 = .ok (.iload 5, 2) := by decide +kernel
theorem dX5_kind_57 : decode cX5_kind 57 = .ok (.iastore, 1) := by decide +kernel
theorem dX5_kind_58 : decode cX5_kind 58 = .ok (.aload_n 0, 1) := by decide +kernel
theorem dX5_kind_59 : decode cX5_kind 59 = .ok (.getfield 16, 3) := by decide +kernel
theorem dX5_kind_62 : decode cX5_kind 62 = .ok (.iload_n 2, 1) := by decide +kernel
theorem dX5_kind_63 : decode cX5_kind 63 = .ok (.invokevirtual 139, 3) := by decide +kernel
theorem dX5_kind_66 : decode cX5_kind 66 = .ok (.aload_n 0, 1) := by decide +kernel
theorem dX5_kind_67 : decode cX5_kind 67 = .ok (.getfield 16, 3) := by decide +kernel
theorem dX5_kind_70 : decode cX5_kind 70 = .ok (.getfield 102, 3) := by decide +kernel
theorem dX5_kind_73 : decode cX5_kind 73 = .ok (.iload_n 1, 1) := by decide +kernel
theorem dX5_kind_74 : decode cX5_kind 74 = .ok (.iaload, 1) := by decide +kernel
theorem dX5_kind_75 : decode cX5_kind 75 = .ok (.invokestatic 184, 3) := by decide +kernel
theorem dX5_kind_78 : decode cX5_kind 78 = .ok (.istore 6, 2) := by decide +kernel
theorem dX5_kind_80 : decode cX5_kind 80 = .ok (.iload 6, 2) := by decide +kernel
theorem dX5_kind_82 : decode cX5_kind 82 = .ok (.iload 4, 2) := by decide +kernel
theorem dX5_kind_84 : decode cX5_kind 84 = .ok (.if_icmp .le 10, 3) := by decide +kernel
theorem dX5_kind_87 : decode cX5_kind 87 = .ok (.iload 6, 2) := by decide +kernel
theorem dX5_kind_89 : decode cX5_kind 89 = .ok (.istore 4, 2) := by decide +kernel
theorem dX5_kind_91 : decode cX5_kind 91 = .ok (.iload 5, 2) := by decide +kernel
theorem dX5_kind_93 : decode cX5_kind 93 = .ok (.istore_n 3, 1) := by decide +kernel
theorem dX5_kind_94 : decode cX5_kind 94 = .ok (.iinc 5 1, 3) := by decide +kernel
theorem dX5_kind_97 : decode cX5_kind 97 = .ok (.goto (-61), 3) := by decide +kernel
theorem dX5_kind_100 : decode cX5_kind 100 = .ok (.iload_n 3, 1) := by decide +kernel
theorem dX5_kind_101 : decode cX5_kind 101 = .ok (.ireturn, 1) := by decide +kernel
theorem dX5_enough_0 : decode cX5_enough 0 = .ok (.iload_n 1, 1) := by decide +kernel
theorem dX5_enough_1 : decode cX5_enough 1 = .ok (.iconst 1, 1) := by decide +kernel
theorem dX5_enough_2 : decode cX5_enough 2 = .ok (.bipush 60, 2) := by decide +kernel
theorem dX5_enough_4 : decode cX5_enough 4 = .ok (.invokestatic 44, 3) := by decide +kernel
theorem dX5_enough_7 : decode cX5_enough 7 = .ok (.ifCond .ne 10, 3) := by decide +kernel
theorem dX5_enough_10 : decode cX5_enough 10 = .ok (.aload_n 0, 1) := by decide +kernel
theorem dX5_enough_11 : decode cX5_enough 11 = .ok (.ldc 48, 2) := by decide +kernel
theorem dX5_enough_13 : decode cX5_enough 13 = .ok (.invokevirtual 49, 3) := by decide +kernel
theorem dX5_enough_16 : decode cX5_enough 16 = .ok (.ireturn, 1) := by decide +kernel
theorem dX5_enough_17 : decode cX5_enough 17 = .ok (.aload_n 0, 1) := by decide +kernel
theorem dX5_enough_18 : decode cX5_enough 18 = .ok (.sipush 999, 3) := by decide +kernel
theorem dX5_enough_21 : decode cX5_enough 21 = .ok (.iload_n 1, 1) := by decide +kernel
theorem dX5_enough_22 : decode cX5_enough 22 = .ok (.invokevirtual 189, 3) := by decide +kernel
theorem dX5_enough_25 : decode cX5_enough 25 = .ok (.ifCond .ne 10, 3) := by decide +kernel
theorem dX5_enough_28 : decode cX5_enough 28 = .ok (.aload_n 0, 1) := by decide +kernel
theorem dX5_enough_29 : decode cX5_enough 29 = .ok (.ldc 171, 2) := by decide +kernel
theorem dX5_enough_31 : decode cX5_enough 31 = .ok (.invokevirtual 49, 3) := by decide +kernel
theorem dX5_enough_34 : decode cX5_enough 34 = .ok (.ireturn, 1) := by decide +kernel
theorem dX5_enough_35 : decode cX5_enough 35 = .ok (.iconst 0, 1) := by decide +kernel
theorem dX5_enough_36 : decode cX5_enough 36 = .ok (.istore_n 2, 1) := by decide +kernel
theorem dX5_enough_37 : decode cX5_enough 37 = .ok (.sipush 999, 3) := by decide +kernel
theorem dX5_enough_40 : decode cX5_enough 40 = .ok (.istore_n 3, 1) := by decide +kernel
theorem dX5_enough_41 : decode cX5_enough 41 = .ok (.iconst 0, 1) := by decide +kernel
theorem dX5_enough_42 : decode cX5_enough 42 = .ok (.istore 4, 2) := by decide +kernel
theorem dX5_enough_44 : decode cX5_enough 44 = .ok (.iload 4, 2) := by decide +kernel
theorem dX5_enough_46 : decode cX5_enough 46 = .ok (.sipush 999, 3) := by decide +kernel
theorem dX5_enough_49 : decode cX5_enough 49 = .ok (.if_icmp .ge 42, 3) := by decide +kernel
theorem dX5_enough_52 : decode cX5_enough 52 = .ok (.iload_n 2, 1) := by decide +kernel
theorem dX5_enough_53 : decode cX5_enough 53 = .ok (.iload_n 3, 1) := by decide +kernel
theorem dX5_enough_54 : decode cX5_enough 54 = .ok (.if_icmp .ge 37, 3) := by decide +kernel
theorem dX5_enough_57 : decode cX5_enough 57 = .ok (.iload_n 2, 1) := by decide +kernel
theorem dX5_enough_58 : decode cX5_enough 58 = .ok (.iload_n 3, 1) := by decide +kernel
theorem dX5_enough_59 : decode cX5_enough 59 = .ok (.iadd, 1) := by decide +kernel
theorem dX5_enough_60 : decode cX5_enough 60 = .ok (.iconst 2, 1) := by decide +kernel
theorem dX5_enough_61 : decode cX5_enough 61 = .ok (.idiv, 1) := by decide +kernel
theorem dX5_enough_62 : decode cX5_enough 62 = .ok (.istore 5, 2) := by decide +kernel
theorem dX5_enough_64 : decode cX5_enough 64 = .ok (.aload_n 0, 1) := by decide +kernel
theorem dX5_enough_65 : decode cX5_enough 65 = .ok (.iload 5, 2) := by decide +kernel
theorem dX5_enough_67 : decode cX5_enough 67 = .ok (.iload_n 1, 1) := by decide +kernel
theorem dX5_enough_68 : decode cX5_enough 68 = .ok (.invokevirtual 189, 3) := by decide +kernel
theorem dX5_enough_71 : decode cX5_enough 71 = .ok (.ifCond .eq 9, 3) := by decide +kernel
theorem dX5_enough_74 : decode cX5_enough 74 = .ok (.iload 5, 2) := by decide +kernel
theorem dX5_enough_76 : decode cX5_enough 76 = .ok (.istore_n 3, 1) := by decide +kernel
theorem dX5_enough_77 : decode cX5_enough 77 = .ok (.goto 8, 3) := by decide +kernel
theorem dX5_enough_80 : decode cX5_enough 80 = .ok (.iload 5, 2) := by decide +kernel
theorem dX5_enough_82 : decode cX5_enough 82 = .ok (.iconst 1, 1) := by decide +kernel
theorem dX5_enough_83 : decode cX5_enough 83 = .ok (.iadd, 1) := by decide +kernel
theorem dX5_enough_84 : decode cX5_enough 84 = .ok (.istore_n 2, 1) := by decide +kernel
theorem dX5_enough_85 : decode cX5_enough 85 = .ok (.iinc 4 1, 3) := by decide +kernel
theorem dX5_enough_88 : decode cX5_enough 88 = .ok (.goto (-44), 3) := by decide +kernel
theorem dX5_enough_91 : decode cX5_enough 91 = .ok (.iload_n 3, 1) := by decide +kernel
theorem dX5_enough_92 : decode cX5_enough 92 = .ok (.ireturn, 1) := by decide +kernel
theorem dX5_beds_0 : decode cX5_beds 0 = .ok (.iload_n 1, 1) := by decide +kernel
theorem dX5_beds_1 : decode cX5_beds 1 = .ok (.iconst 1, 1) := by decide +kernel
theorem dX5_beds_2 : decode cX5_beds 2 = .ok (.bipush 100, 2) := by decide +kernel
theorem dX5_beds_4 : decode cX5_beds 4 = .ok (.invokestatic 44, 3) := by decide +kernel
theorem dX5_beds_7 : decode cX5_beds 7 = .ok (.ifCond .ne 10, 3) := by decide +kernel
theorem dX5_beds_10 : decode cX5_beds 10 = .ok (.aload_n 0, 1) := by decide +kernel
theorem dX5_beds_11 : decode cX5_beds 11 = .ok (.ldc 48, 2) := by decide +kernel
theorem dX5_beds_13 : decode cX5_beds 13 = .ok (.invokevirtual 49, 3) := by decide +kernel
theorem dX5_beds_16 : decode cX5_beds 16 = .ok (.ireturn, 1) := by decide +kernel
theorem dX5_beds_17 : decode cX5_beds 17 = .ok (.iconst 1, 1) := by decide +kernel
theorem dX5_beds_18 : decode cX5_beds 18 = .ok (.istore_n 2, 1) := by decide +kernel
theorem dX5_beds_19 : decode cX5_beds 19 = .ok (.iconst (-1), 1) := by decide +kernel
theorem dX5_beds_20 : decode cX5_beds 20 = .ok (.istore_n 3, 1) := by decide +kernel
theorem dX5_beds_21 : decode cX5_beds 21 = .ok (.iconst 1, 1) := by decide +kernel
theorem dX5_beds_22 : decode cX5_beds 22 = .ok (.istore 4, 2) := by decide +kernel
theorem dX5_beds_24 : decode cX5_beds 24 = .ok (.iload 4, 2) := by decide +kernel
theorem dX5_beds_26 : decode cX5_beds 26 = .ok (.iconst 3, 1) := by decide +kernel
theorem dX5_beds_27 : decode cX5_beds 27 = .ok (.if_icmp .gt 51, 3) := by decide +kernel
theorem dX5_beds_30 : decode cX5_beds 30 = .ok (.aload_n 0, 1) := by decide +kernel
theorem dX5_beds_31 : decode cX5_beds 31 = .ok (.invokevirtual 165, 3) := by decide +kernel
theorem dX5_beds_34 : decode cX5_beds 34 = .ok (.aload_n 0, 1) := by decide +kernel
theorem dX5_beds_35 : decode cX5_beds 35 = .ok (.getfield 16, 3) := by decide +kernel
theorem dX5_beds_38 : decode cX5_beds 38 = .ok (.iload 4, 2) := by decide +kernel
theorem dX5_beds_40 : decode cX5_beds 40 = .ok (.putfield 153, 3) := by decide +kernel
theorem dX5_beds_43 : decode cX5_beds 43 = .ok (.aload_n 0, 1) := by decide +kernel
theorem dX5_beds_44 : decode cX5_beds 44 = .ok (.getfield 16, 3) := by decide +kernel
theorem dX5_beds_47 : decode cX5_beds 47 = .ok (.iload_n 1, 1) := by decide +kernel
theorem dX5_beds_48 : decode cX5_beds 48 = .ok (.invokevirtual 139, 3) := by decide +kernel
theorem dX5_beds_51 : decode cX5_beds 51 = .ok (.aload_n 0, 1) := by decide +kernel
theorem dX5_beds_52 : decode cX5_beds 52 = .ok (.getfield 16, 3) := by decide +kernel
theorem dX5_beds_55 : decode cX5_beds 55 = .ok (.invokevirtual 192, 3) := by decide +kernel
theorem dX5_beds_58 : decode cX5_beds 58 = .ok (.istore 5, 2) := by decide +kernel
theorem dX5_beds_60 : decode cX5_beds 60 = .ok (.iload 5, 2) := by decide +kernel
theorem dX5_beds_62 : decode cX5_beds 62 = .ok (.iload_n 3, 1) := by decide +kernel
theorem dX5_beds_63 : decode cX5_beds 63 = .ok (.if_icmp .le 9, 3) := by decide +kernel
theorem dX5_beds_66 : decode cX5_beds 66 = .ok (.iload 5, 2) := by decide +kernel
theorem dX5_beds_68 : decode cX5_beds 68 = .ok (.istore_n 3, 1) := by decide +kernel
theorem dX5_beds_69 : decode cX5_beds 69 = .ok (.iload 4, 2) := by decide +kernel
theorem dX5_beds_71 : decode cX5_beds 71 = .ok (.istore_n 2, 1) := by decide +kernel
theorem dX5_beds_72 : decode cX5_beds 72 = .ok (.iinc 4 1, 3) := by decide +kernel
theorem dX5_beds_75 : decode cX5_beds 75 = .ok (.goto (-51), 3) := by decide +kernel
theorem dX5_beds_78 : decode cX5_beds 78 = .ok (.iload_n 2, 1) := by decide +kernel
theorem dX5_beds_79 : decode cX5_beds 79 = .ok (.ireturn, 1) := by decide +kernel
theorem dX5_storm_0 : decode cX5_storm 0 = .ok (.aload_n 0, 1) := by decide +kernel
theorem dX5_storm_1 : decode cX5_storm 1 = .ok (.invokevirtual 165, 3) := by decide +kernel
theorem dX5_storm_4 : decode cX5_storm 4 = .ok (.aload_n 0, 1) := by decide +kernel
theorem dX5_storm_5 : decode cX5_storm 5 = .ok (.getfield 10, 3) := by decide +kernel
theorem dX5_storm_8 : decode cX5_storm 8 = .ok (.bipush 100, 2) := by decide +kernel
theorem dX5_storm_10 : decode cX5_storm 10 = .ok (.invokevirtual 168, 3) := by decide +kernel
theorem dX5_storm_13 : decode cX5_storm 13 = .ok (.istore_n 1, 1) := by decide +kernel
theorem dX5_storm_14 : decode cX5_storm 14 = .ok (.iconst (-1), 1) := by decide +kernel
theorem dX5_storm_15 : decode cX5_storm 15 = .ok (.istore_n 2, 1) := by decide +kernel
theorem dX5_storm_16 : decode cX5_storm 16 = .ok (.iconst 0, 1) := by decide +kernel
theorem dX5_storm_17 : decode cX5_storm 17 = .ok (.istore_n 3, 1) := by decide +kernel
theorem dX5_storm_18 : decode cX5_storm 18 = .ok (.iload_n 3, 1) := by decide +kernel
theorem dX5_storm_19 : decode cX5_storm 19 = .ok (.bipush 28, 2) := by decide +kernel
theorem dX5_storm_21 : decode cX5_storm 21 = .ok (.if_icmp .ge 60, 3) := by decide +kernel
theorem dX5_storm_24 : decode cX5_storm 24 = .ok (.aload_n 0, 1) := by decide +kernel
theorem dX5_storm_25 : decode cX5_storm 25 = .ok (.getfield 16, 3) := by decide +kernel
theorem dX5_storm_28 : decode cX5_storm 28 = .ok (.getfield 53, 3) := by decide +kernel
theorem dX5_storm_31 : decode cX5_storm 31 = .ok (.iload_n 3, 1) := by decide +kernel
theorem dX5_storm_32 : decode cX5_storm 32 = .ok (.bipush 12, 2) := by decide +kernel
theorem dX5_storm_34 : decode cX5_storm 34 = .ok (.iastore, 1) := by decide +kernel
theorem dX5_storm_35 : decode cX5_storm 35 = .ok (.aload_n 0, 1) := by decide +kernel
theorem dX5_storm_36 : decode cX5_storm 36 = .ok (.getfield 16, 3) := by decide +kernel
theorem dX5_storm_39 : decode cX5_storm 39 = .ok (.bipush 100, 2) := by decide +kernel
theorem dX5_storm_41 : decode cX5_storm 41 = .ok (.invokevirtual 168, 3) := by decide +kernel
theorem dX5_storm_44 : decode cX5_storm 44 = .ok (.istore 4, 2) := by decide +kernel
theorem dX5_storm_46 : decode cX5_storm 46 = .ok (.aload_n 0, 1) := by decide +kernel
theorem dX5_storm_47 : decode cX5_storm 47 = .ok (.getfield 16, 3) := by decide +kernel
theorem dX5_storm_50 : decode cX5_storm 50 = .ok (.getfield 53, 3) := by decide +kernel
theorem dX5_storm_53 : decode cX5_storm 53 = .ok (.iload_n 3, 1) := by decide +kernel
theorem dX5_storm_54 : decode cX5_storm 54 = .ok (.aload_n 0, 1) := by decide +kernel
theorem dX5_storm_55 : decode cX5_storm 55 = .ok (.getfield 10, 3) := by decide +kernel
theorem dX5_storm_58 : decode cX5_storm 58 = .ok (.getfield 53, 3) := by decide +kernel
theorem dX5_storm_61 : decode cX5_storm 61 = .ok (.iload_n 3, 1) := by decide +kernel
theorem dX5_storm_62 : decode cX5_storm 62 = .ok (.iaload, 1) := by decide +kernel
theorem dX5_storm_63 : decode cX5_storm 63 = .ok (.iastore, 1) := by decide +kernel
theorem dX5_storm_64 : decode cX5_storm 64 = .ok (.iload 4, 2) := by decide +kernel
theorem dX5_storm_66 : decode cX5_storm 66 = .ok (.iload_n 1, 1) := by decide +kernel
theorem dX5_storm_67 : decode cX5_storm 67 = .ok (.if_icmp .ge 8, 3) := by decide +kernel
theorem dX5_storm_70 : decode cX5_storm 70 = .ok (.iload 4, 2) := by decide +kernel
theorem dX5_storm_72 : decode cX5_storm 72 = .ok (.istore_n 1, 1) := by decide +kernel
theorem dX5_storm_73 : decode cX5_storm 73 = .ok (.iload_n 3, 1) := by decide +kernel
theorem dX5_storm_74 : decode cX5_storm 74 = .ok (.istore_n 2, 1) := by decide +kernel
theorem dX5_storm_75 : decode cX5_storm 75 = .ok (.iinc 3 1, 3) := by decide +kernel
theorem dX5_storm_78 : decode cX5_storm 78 = .ok (.goto (-60), 3) := by decide +kernel
theorem dX5_storm_81 : decode cX5_storm 81 = .ok (.iload_n 2, 1) := by decide +kernel
theorem dX5_storm_82 : decode cX5_storm 82 = .ok (.ifCond .ge 12, 3) := by decide +kernel
theorem dX5_storm_85 : decode cX5_storm 85 = .ok (.aload_n 0, 1) := by decide +kernel
theorem dX5_storm_86 : decode cX5_storm 86 = .ok (.ldc 171, 2) := by decide +kernel
theorem dX5_storm_88 : decode cX5_storm 88 = .ok (.invokevirtual 49, 3) := by decide +kernel
theorem dX5_storm_91 : decode cX5_storm 91 = .ok (.goto 4, 3) := by decide +kernel
theorem dX5_storm_94 : decode cX5_storm 94 = .ok (.iload_n 2, 1) := by decide +kernel
theorem dX5_storm_95 : decode cX5_storm 95 = .ok (.ireturn, 1) := by decide +kernel
theorem dX5_change_0 : decode cX5_change 0 = .ok (.iload_n 1, 1) := by decide +kernel
theorem dX5_change_1 : decode cX5_change 1 = .ok (.iconst 1, 1) := by decide +kernel
theorem dX5_change_2 : decode cX5_change 2 = .ok (.bipush 60, 2) := by decide +kernel
theorem dX5_change_4 : decode cX5_change 4 = .ok (.invokestatic 44, 3) := by decide +kernel
theorem dX5_change_7 : decode cX5_change 7 = .ok (.ifCond .ne 10, 3) := by decide +kernel
theorem dX5_change_10 : decode cX5_change 10 = .ok (.aload_n 0, 1) := by decide +kernel
theorem dX5_change_11 : decode cX5_change 11 = .ok (.ldc 48, 2) := by decide +kernel
theorem dX5_change_13 : decode cX5_change 13 = .ok (.invokevirtual 49, 3) := by decide +kernel
theorem dX5_change_16 : decode cX5_change 16 = .ok (.ireturn, 1) := by decide +kernel
theorem dX5_change_17 : decode cX5_change 17 = .ok (.aload_n 0, 1) := by decide +kernel
theorem dX5_change_18 : decode cX5_change 18 = .ok (.invokevirtual 165, 3) := by decide +kernel
theorem dX5_change_21 : decode cX5_change 21 = .ok (.aload_n 0, 1) := by decide +kernel
theorem dX5_change_22 : decode cX5_change 22 = .ok (.getfield 16, 3) := by decide +kernel
theorem dX5_change_25 : decode cX5_change 25 = .ok (.iload_n 1, 1) := by decide +kernel
theorem dX5_change_26 : decode cX5_change 26 = .ok (.invokevirtual 139, 3) := by decide +kernel
theorem dX5_change_29 : decode cX5_change 29 = .ok (.aload_n 0, 1) := by decide +kernel
theorem dX5_change_30 : decode cX5_change 30 = .ok (.getfield 16, 3) := by decide +kernel
theorem dX5_change_33 : decode cX5_change 33 = .ok (.getfield 150, 3) := by decide +kernel
theorem dX5_change_36 : decode cX5_change 36 = .ok (.istore_n 2, 1) := by decide +kernel
theorem dX5_change_37 : decode cX5_change 37 = .ok (.iconst (-1), 1) := by decide +kernel
theorem dX5_change_38 : decode cX5_change 38 = .ok (.istore_n 3, 1) := by decide +kernel
theorem dX5_change_39 : decode cX5_change 39 = .ok (.iconst 0, 1) := by decide +kernel
theorem dX5_change_40 : decode cX5_change 40 = .ok (.istore 4, 2) := by decide +kernel
theorem dX5_change_42 : decode cX5_change 42 = .ok (.iload 4, 2) := by decide +kernel
theorem dX5_change_44 : decode cX5_change 44 = .ok (.aload_n 0, 1) := by decide +kernel
theorem dX5_change_45 : decode cX5_change 45 = .ok (.getfield 10, 3) := by decide +kernel
