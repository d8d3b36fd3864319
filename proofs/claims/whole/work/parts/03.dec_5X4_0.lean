theorem dX4_takeText_0 : decode cX4_takeText 0 = .ok (.aload_n 0, 1) := by decide +kernel
theorem dX4_takeText_1 : decode cX4_takeText 1 = .ok (.invokevirtual 9, 3) := by decide +kernel
theorem dX4_takeText_4 : decode cX4_takeText 4 = .ok (.iconst 1, 1) := by decide +kernel
theorem dX4_takeText_5 : decode cX4_takeText 5 = .ok (.istore_n 2, 1) := by decide +kernel
theorem dX4_takeText_6 : decode cX4_takeText 6 = .ok (.iload_n 2, 1) := by decide +kernel
theorem dX4_takeText_7 : decode cX4_takeText 7 = .ok (.bipush 120, 2) := by decide +kernel
theorem dX4_takeText_9 : decode cX4_takeText 9 = .ok (.if_icmp .gt 44, 3) := by decide +kernel
theorem dX4_takeText_12 : decode cX4_takeText 12 = .ok (.aload_n 0, 1) := by decide +kernel
theorem dX4_takeText_13 : decode cX4_takeText 13 = .ok (.aload_n 1, 1) := by decide +kernel
theorem dX4_takeText_14 : decode cX4_takeText 14 = .ok (.invokestatic 14, 3) := by decide +kernel
theorem dX4_takeText_17 : decode cX4_takeText 17 = .ok (.ifCond .ne 6, 3) := by decide +kernel
theorem dX4_takeText_20 : decode cX4_takeText 20 = .ok (.goto 33, 3) := by decide +kernel
theorem dX4_takeText_23 : decode cX4_takeText 23 = .ok (.aload_n 0, 1) := by decide +kernel
theorem dX4_takeText_24 : decode cX4_takeText 24 = .ok (.getfield 20, 3) := by decide +kernel
theorem dX4_takeText_27 : decode cX4_takeText 27 = .ok (.ifCond .ne 5, 3) := by decide +kernel
theorem dX4_takeText_30 : decode cX4_takeText 30 = .ok (.iload_n 2, 1) := by decide +kernel
theorem dX4_takeText_31 : decode cX4_takeText 31 = .ok (.ireturn, 1) := by decide +kernel
theorem dX4_takeText_32 : decode cX4_takeText 32 = .ok (.aload_n 0, 1) := by decide +kernel
theorem dX4_takeText_33 : decode cX4_takeText 33 = .ok (.getfield 20, 3) := by decide +kernel
theorem dX4_takeText_36 : decode cX4_takeText 36 = .ok (.iconst 3, 1) := by decide +kernel
theorem dX4_takeText_37 : decode cX4_takeText 37 = .ok (.if_icmp .eq 6, 3) := by decide +kernel
theorem dX4_takeText_40 : decode cX4_takeText 40 = .ok (.goto 13, 3) := by decide +kernel
theorem dX4_takeText_43 : decode cX4_takeText 43 = .ok (.aload_n 0, 1) := by decide +kernel
theorem dX4_takeText_44 : decode cX4_takeText 44 = .ok (.invokevirtual 24, 3) := by decide +kernel
theorem dX4_takeText_47 : decode cX4_takeText 47 = .ok (.iinc 2 1, 3) := by decide +kernel
theorem dX4_takeText_50 : decode cX4_takeText 50 = .ok (.goto (-44), 3) := by decide +kernel
theorem dX4_takeText_53 : decode cX4_takeText 53 = .ok (.iconst (-1), 1) := by decide +kernel
theorem dX4_takeText_54 : decode cX4_takeText 54 = .ok (.aload_n 0, 1) := by decide +kernel
theorem dX4_takeText_55 : decode cX4_takeText 55 = .ok (.getfield 27, 3) := by decide +kernel
theorem dX4_takeText_58 : decode cX4_takeText 58 = .ok (.isub, 1) := by decide +kernel
theorem dX4_takeText_59 : decode cX4_takeText 59 = .ok (.ireturn, 1) := by decide +kernel
theorem dX4_takeItem_0 : decode cX4_takeItem 0 = .ok (.aload_n 0, 1) := by decide +kernel
theorem dX4_takeItem_1 : decode cX4_takeItem 1 = .ok (.invokestatic 30, 3) := by decide +kernel
theorem dX4_takeItem_4 : decode cX4_takeItem 4 = .ok (.istore_n 2, 1) := by decide +kernel
theorem dX4_takeItem_5 : decode cX4_takeItem 5 = .ok (.iload_n 2, 1) := by decide +kernel
theorem dX4_takeItem_6 : decode cX4_takeItem 6 = .ok (.ifCond .lt 10, 3) := by decide +kernel
theorem dX4_takeItem_9 : decode cX4_takeItem 9 = .ok (.aload_n 0, 1) := by decide +kernel
theorem dX4_takeItem_10 : decode cX4_takeItem 10 = .ok (.aload_n 1, 1) := by decide +kernel
theorem dX4_takeItem_11 : decode cX4_takeItem 11 = .ok (.iload_n 2, 1) := by decide +kernel
theorem dX4_takeItem_12 : decode cX4_takeItem 12 = .ok (.invokestatic 34, 3) := by decide +kernel
theorem dX4_takeItem_15 : decode cX4_takeItem 15 = .ok (.ireturn, 1) := by decide +kernel
theorem dX4_takeItem_16 : decode cX4_takeItem 16 = .ok (.aload_n 0, 1) := by decide +kernel
theorem dX4_takeItem_17 : decode cX4_takeItem 17 = .ok (.ldc 38, 2) := by decide +kernel
theorem dX4_takeItem_19 : decode cX4_takeItem 19 = .ok (.invokevirtual 40, 3) := by decide +kernel
theorem dX4_takeItem_22 : decode cX4_takeItem 22 = .ok (.ifCond .eq 9, 3) := by decide +kernel
theorem dX4_takeItem_25 : decode cX4_takeItem 25 = .ok (.aload_n 0, 1) := by decide +kernel
theorem dX4_takeItem_26 : decode cX4_takeItem 26 = .ok (.aload_n 1, 1) := by decide +kernel
theorem dX4_takeItem_27 : decode cX4_takeItem 27 = .ok (.invokestatic 44, 3) := by decide +kernel
theorem dX4_takeItem_30 : decode cX4_takeItem 30 = .ok (.ireturn, 1) := by decide +kernel
theorem dX4_takeItem_31 : decode cX4_takeItem 31 = .ok (.aload_n 0, 1) := by decide +kernel
theorem dX4_takeItem_32 : decode cX4_takeItem 32 = .ok (.ldc 47, 2) := by decide +kernel
theorem dX4_takeItem_34 : decode cX4_takeItem 34 = .ok (.invokevirtual 40, 3) := by decide +kernel
theorem dX4_takeItem_37 : decode cX4_takeItem 37 = .ok (.ifCond .eq 10, 3) := by decide +kernel
theorem dX4_takeItem_40 : decode cX4_takeItem 40 = .ok (.aload_n 0, 1) := by decide +kernel
theorem dX4_takeItem_41 : decode cX4_takeItem 41 = .ok (.aload_n 1, 1) := by decide +kernel
theorem dX4_takeItem_42 : decode cX4_takeItem 42 = .ok (.iconst 0, 1) := by decide +kernel
theorem dX4_takeItem_43 : decode cX4_takeItem 43 = .ok (.invokestatic 49, 3) := by decide +kernel
theorem dX4_takeItem_46 : decode cX4_takeItem 46 = .ok (.ireturn, 1) := by decide +kernel
theorem dX4_takeItem_47 : decode cX4_takeItem 47 = .ok (.aload_n 0, 1) := by decide +kernel
theorem dX4_takeItem_48 : decode cX4_takeItem 48 = .ok (.ldc 52, 2) := by decide +kernel
theorem dX4_takeItem_50 : decode cX4_takeItem 50 = .ok (.invokevirtual 40, 3) := by decide +kernel
theorem dX4_takeItem_53 : decode cX4_takeItem 53 = .ok (.ifCond .eq 10, 3) := by decide +kernel
theorem dX4_takeItem_56 : decode cX4_takeItem 56 = .ok (.aload_n 0, 1) := by decide +kernel
theorem dX4_takeItem_57 : decode cX4_takeItem 57 = .ok (.aload_n 1, 1) := by decide +kernel
theorem dX4_takeItem_58 : decode cX4_takeItem 58 = .ok (.iconst 1, 1) := by decide +kernel
theorem dX4_takeItem_59 : decode cX4_takeItem 59 = .ok (.invokestatic 49, 3) := by decide +kernel
theorem dX4_takeItem_62 : decode cX4_takeItem 62 = .ok (.ireturn, 1) := by decide +kernel
theorem dX4_takeItem_63 : decode cX4_takeItem 63 = .ok (.aload_n 0, 1) := by decide +kernel
theorem dX4_takeItem_64 : decode cX4_takeItem 64 = .ok (.ldc 54, 2) := by decide +kernel
theorem dX4_takeItem_66 : decode cX4_takeItem 66 = .ok (.invokevirtual 40, 3) := by decide +kernel
theorem dX4_takeItem_69 : decode cX4_takeItem 69 = .ok (.ifCond .eq 16, 3) := by decide +kernel
theorem dX4_takeItem_72 : decode cX4_takeItem 72 = .ok (.aload_n 0, 1) := by decide +kernel
theorem dX4_takeItem_73 : decode cX4_takeItem 73 = .ok (.aload_n 1, 1) := by decide +kernel
theorem dX4_takeItem_74 : decode cX4_takeItem 74 = .ok (.iconst 2, 1) := by decide +kernel
theorem dX4_takeItem_75 : decode cX4_takeItem 75 = .ok (.invokestatic 49, 3) := by decide +kernel
theorem dX4_takeItem_78 : decode cX4_takeItem 78 = .ok (.ifCond .eq 7, 3) := by decide +kernel
theorem dX4_takeItem_81 : decode cX4_takeItem 81 = .ok (.iconst 1, 1) := by decide +kernel
theorem dX4_takeItem_82 : decode cX4_takeItem 82 = .ok (.goto 4, 3) := by decide +kernel
theorem dX4_takeItem_85 : decode cX4_takeItem 85 = .ok (.iconst 0, 1) := by decide +kernel
theorem dX4_takeItem_86 : decode cX4_takeItem 86 = .ok (.ireturn, 1) := by decide +kernel
theorem dX4_takeMeasure_0 : decode cX4_takeMeasure 0 = .ok (.iload_n 2, 1) := by decide +kernel
theorem dX4_takeMeasure_1 : decode cX4_takeMeasure 1 = .ok (.iconst 0, 1) := by decide +kernel
theorem dX4_takeMeasure_2 : decode cX4_takeMeasure 2 = .ok (.iconst 3, 1) := by decide +kernel
theorem dX4_takeMeasure_3 : decode cX4_takeMeasure 3 = .ok (.invokestatic 56, 3) := by decide +kernel
theorem dX4_takeMeasure_6 : decode cX4_takeMeasure 6 = .ok (.ifCond .eq 20, 3) := by decide +kernel
theorem dX4_takeMeasure_9 : decode cX4_takeMeasure 9 = .ok (.aload_n 0, 1) := by decide +kernel
theorem dX4_takeMeasure_10 : decode cX4_takeMeasure 10 = .ok (.getstatic 60, 3) := by decide +kernel
theorem dX4_takeMeasure_13 : decode cX4_takeMeasure 13 = .ok (.iload_n 2, 1) := by decide +kernel
theorem dX4_takeMeasure_14 : decode cX4_takeMeasure 14 = .ok (.iaload, 1) := by decide +kernel
theorem dX4_takeMeasure_15 : decode cX4_takeMeasure 15 = .ok (.getstatic 64, 3) := by decide +kernel
theorem dX4_takeMeasure_18 : decode cX4_takeMeasure 18 = .ok (.iload_n 2, 1) := by decide +kernel
theorem dX4_takeMeasure_19 : decode cX4_takeMeasure 19 = .ok (.iaload, 1) := by decide +kernel
theorem dX4_takeMeasure_20 : decode cX4_takeMeasure 20 = .ok (.invokevirtual 67, 3) := by decide +kernel
theorem dX4_takeMeasure_23 : decode cX4_takeMeasure 23 = .ok (.goto 4, 3) := by decide +kernel
theorem dX4_takeMeasure_26 : decode cX4_takeMeasure 26 = .ok (.iconst (-1), 1) := by decide +kernel
theorem dX4_takeMeasure_27 : decode cX4_takeMeasure 27 = .ok (.istore_n 3, 1) := by decide +kernel
theorem dX4_takeMeasure_28 : decode cX4_takeMeasure 28 = .ok (.iload_n 3, 1) := by decide +kernel
theorem dX4_takeMeasure_29 : decode cX4_takeMeasure 29 = .ok (.ifCond .ge 5, 3) := by decide +kernel
theorem dX4_takeMeasure_32 : decode cX4_takeMeasure 32 = .ok (.iconst 0, 1) := by decide +kernel
theorem dX4_takeMeasure_33 : decode cX4_takeMeasure 33 = .ok (.ireturn, 1) := by decide +kernel
theorem dX4_takeMeasure_34 : decode cX4_takeMeasure 34 = .ok (.aload_n 1, 1) := by decide +kernel
theorem dX4_takeMeasure_35 : decode cX4_takeMeasure 35 = .ok (.iload_n 2, 1) := by decide +kernel
theorem dX4_takeMeasure_36 : decode cX4_takeMeasure 36 = .ok (.iload_n 3, 1) := by decide +kernel
theorem dX4_takeMeasure_37 : decode cX4_takeMeasure 37 = .ok (.invokevirtual 71, 3) := by decide +kernel
theorem dX4_takeMeasure_40 : decode cX4_takeMeasure 40 = .ok (.iconst 1, 1) := by decide +kernel
theorem dX4_takeMeasure_41 : decode cX4_takeMeasure 41 = .ok (.ireturn, 1) := by decide +kernel
theorem dX4_kindShown_0 : decode cX4_kindShown 0 = .ok (.aload_n 0, 1) := by decide +kernel
theorem dX4_kindShown_1 : decode cX4_kindShown 1 = .ok (.ldc 77, 2) := by decide +kernel
theorem dX4_kindShown_3 : decode cX4_kindShown 3 = .ok (.invokevirtual 79, 3) := by decide +kernel
theorem dX4_kindShown_6 : decode cX4_kindShown 6 = .ok (.ifCond .eq 5, 3) := by decide +kernel
theorem dX4_kindShown_9 : decode cX4_kindShown 9 = .ok (.iconst 0, 1) := by decide +kernel
theorem dX4_kindShown_10 : decode cX4_kindShown 10 = .ok (.ireturn, 1) := by decide +kernel
theorem dX4_kindShown_11 : decode cX4_kindShown 11 = .ok (.aload_n 0, 1) := by decide +kernel
theorem dX4_kindShown_12 : decode cX4_kindShown 12 = .ok (.ldc 82, 2) := by decide +kernel
theorem dX4_kindShown_14 : decode cX4_kindShown 14 = .ok (.invokevirtual 79, 3) := by decide +kernel
theorem dX4_kindShown_17 : decode cX4_kindShown 17 = .ok (.ifCond .eq 5, 3) := by decide +kernel
theorem dX4_kindShown_20 : decode cX4_kindShown 20 = .ok (.iconst 1, 1) := by decide +kernel
theorem dX4_kindShown_21 : decode cX4_kindShown 21 = .ok (.ireturn, 1) := by decide +kernel
theorem dX4_kindShown_22 : decode cX4_kindShown 22 = .ok (.aload_n 0, 1) := by decide +kernel
theorem dX4_kindShown_23 : decode cX4_kindShown 23 = .ok (.ldc 84, 2) := by decide +kernel
theorem dX4_kindShown_25 : decode cX4_kindShown 25 = .ok (.invokevirtual 79, 3) := by decide +kernel
theorem dX4_kindShown_28 : decode cX4_kindShown 28 = .ok (.ifCond .eq 5, 3) := by decide +kernel
theorem dX4_kindShown_31 : decode cX4_kindShown 31 = .ok (.iconst 2, 1) := by decide +kernel
theorem dX4_kindShown_32 : decode cX4_kindShown 32 = .ok (.ireturn, 1) := by decide +kernel
theorem dX4_kindShown_33 : decode cX4_kindShown 33 = .ok (.aload_n 0, 1) := by decide +kernel
theorem dX4_kindShown_34 : decode cX4_kindShown 34 = .ok (.ldc 86, 2) := by decide +kernel
theorem dX4_kindShown_36 : decode cX4_kindShown 36 = .ok (.invokevirtual 79, 3) := by decide +kernel
theorem dX4_kindShown_39 : decode cX4_kindShown 39 = .ok (.ifCond .eq 5, 3) := by decide +kernel
theorem dX4_kindShown_42 : decode cX4_kindShown 42 = .ok (.iconst 3, 1) := by decide +kernel
theorem dX4_kindShown_43 : decode cX4_kindShown 43 = .ok (.ireturn, 1) := by decide +kernel
theorem dX4_kindShown_44 : decode cX4_kindShown 44 = .ok (.aload_n 0, 1) := by decide +kernel
theorem dX4_kindShown_45 : decode cX4_kindShown 45 = .ok (.ldc 88, 2) := by decide +kernel
theorem dX4_kindShown_47 : decode cX4_kindShown 47 = .ok (.invokevirtual 79, 3) := by decide +kernel
theorem dX4_kindShown_50 : decode cX4_kindShown 50 = .ok (.ifCond .eq 5, 3) := by decide +kernel
theorem dX4_kindShown_53 : decode cX4_kindShown 53 = .ok (.iconst 4, 1) := by decide +kernel
theorem dX4_kindShown_54 : decode cX4_kindShown 54 = .ok (.ireturn, 1) := by decide +kernel
theorem dX4_kindShown_55 : decode cX4_kindShown 55 = .ok (.aload_n 0, 1) := by decide +kernel
theorem dX4_kindShown_56 : decode cX4_kindShown 56 = .ok (.ldc 90, 2) := by decide +kernel
theorem dX4_kindShown_58 : decode cX4_kindShown 58 = .ok (.invokevirtual 79, 3) := by decide +kernel
theorem dX4_kindShown_61 : decode cX4_kindShown 61 = .ok (.ifCond .eq 7, 3) := by decide +kernel
theorem dX4_kindShown_64 : decode cX4_kindShown 64 = .ok (.iconst 5, 1) := by decide +kernel
theorem dX4_kindShown_65 : decode cX4_kindShown 65 = .ok (.goto 4, 3) := by decide +kernel
theorem dX4_kindShown_68 : decode cX4_kindShown 68 = .ok (.iconst (-1), 1) := by decide +kernel
theorem dX4_kindShown_69 : decode cX4_kindShown 69 = .ok (.ireturn, 1) := by decide +kernel
theorem dX4_takeKeeper_0 : decode cX4_takeKeeper 0 = .ok (.aload_n 1, 1) := by decide +kernel
theorem dX4_takeKeeper_1 : decode cX4_takeKeeper 1 = .ok (.iload_n 2, 1) := by decide +kernel
theorem dX4_takeKeeper_2 : decode cX4_takeKeeper 2 = .ok (.invokevirtual 92, 3) := by decide +kernel
theorem dX4_takeKeeper_5 : decode cX4_takeKeeper 5 = .ok (.istore_n 3, 1) := by decide +kernel
theorem dX4_takeKeeper_6 : decode cX4_takeKeeper 6 = .ok (.iload_n 3, 1) := by decide +kernel
theorem dX4_takeKeeper_7 : decode cX4_takeKeeper 7 = .ok (.ifCond .ge 5, 3) := by decide +kernel
theorem dX4_takeKeeper_10 : decode cX4_takeKeeper 10 = .ok (.iconst 0, 1) := by decide +kernel
theorem dX4_takeKeeper_11 : decode cX4_takeKeeper 11 = .ok (.ireturn, 1) := by decide +kernel
theorem dX4_takeKeeper_12 : decode cX4_takeKeeper 12 = .ok (.aload_n 0, 1) := by decide +kernel
theorem dX4_takeKeeper_13 : decode cX4_takeKeeper 13 = .ok (.invokevirtual 24, 3) := by decide +kernel
theorem dX4_takeKeeper_16 : decode cX4_takeKeeper 16 = .ok (.aload_n 0, 1) := by decide +kernel
theorem dX4_takeKeeper_17 : decode cX4_takeKeeper 17 = .ok (.ldc 96, 2) := by decide +kernel
theorem dX4_takeKeeper_19 : decode cX4_takeKeeper 19 = .ok (.invokevirtual 40, 3) := by decide +kernel
theorem dX4_takeKeeper_22 : decode cX4_takeKeeper 22 = .ok (.ifCond .eq 10, 3) := by decide +kernel
theorem dX4_takeKeeper_25 : decode cX4_takeKeeper 25 = .ok (.aload_n 1, 1) := by decide +kernel
theorem dX4_takeKeeper_26 : decode cX4_takeKeeper 26 = .ok (.iload_n 3, 1) := by decide +kernel
theorem dX4_takeKeeper_27 : decode cX4_takeKeeper 27 = .ok (.iconst 1, 1) := by decide +kernel
theorem dX4_takeKeeper_28 : decode cX4_takeKeeper 28 = .ok (.invokevirtual 98, 3) := by decide +kernel
theorem dX4_takeKeeper_31 : decode cX4_takeKeeper 31 = .ok (.pop, 1) := by decide +kernel
theorem dX4_takeKeeper_32 : decode cX4_takeKeeper 32 = .ok (.aload_n 0, 1) := by decide +kernel
theorem dX4_takeKeeper_33 : decode cX4_takeKeeper 33 = .ok (.ldc 101, 2) := by decide +kernel
theorem dX4_takeKeeper_35 : decode cX4_takeKeeper 35 = .ok (.invokevirtual 40, 3) := by decide +kernel
theorem dX4_takeKeeper_38 : decode cX4_takeKeeper 38 = .ok (.ifCond .eq 12, 3) := by decide +kernel
theorem dX4_takeKeeper_41 : decode cX4_takeKeeper 41 = .ok (.aload_n 0, 1) := by decide +kernel
theorem dX4_takeKeeper_42 : decode cX4_takeKeeper 42 = .ok (.aload_n 1, 1) := by decide +kernel
theorem dX4_takeKeeper_43 : decode cX4_takeKeeper 43 = .ok (.iload_n 3, 1) := by decide +kernel
theorem dX4_takeKeeper_44 : decode cX4_takeKeeper 44 = .ok (.invokestatic 103, 3) := by decide +kernel
theorem dX4_takeKeeper_47 : decode cX4_takeKeeper 47 = .ok (.ifCond .eq 7, 3) := by decide +kernel
theorem dX4_takeKeeper_50 : decode cX4_takeKeeper 50 = .ok (.iconst 1, 1) := by decide +kernel
theorem dX4_takeKeeper_51 : decode cX4_takeKeeper 51 = .ok (.goto 4, 3) := by decide +kernel
theorem dX4_takeKeeper_54 : decode cX4_takeKeeper 54 = .ok (.iconst 0, 1) := by decide +kernel
theorem dX4_takeKeeper_55 : decode cX4_takeKeeper 55 = .ok (.ireturn, 1) := by decide +kernel
theorem dX4_takeKnownWords_0 : decode cX4_takeKnownWords 0 = .ok (.iconst 0, 1) := by decide +kernel
theorem dX4_takeKnownWords_1 : decode cX4_takeKnownWords 1 = .ok (.istore_n 3, 1) := by decide +kernel
theorem dX4_takeKnownWords_2 : decode cX4_takeKnownWords 2 = .ok (.iconst 0, 1) := by decide +kernel
theorem dX4_takeKnownWords_3 : decode cX4_takeKnownWords 3 = .ok (.istore 4, 2) := by decide +kernel
theorem dX4_takeKnownWords_5 : decode cX4_takeKnownWords 5 = .ok (.iload 4, 2) := by decide +kernel
theorem dX4_takeKnownWords_7 : decode cX4_takeKnownWords 7 = .ok (.iconst 4, 1) := by decide +kernel
theorem dX4_takeKnownWords_8 : decode cX4_takeKnownWords 8 = .ok (.if_icmp .ge 48, 3) := by decide +kernel
theorem dX4_takeKnownWords_11 : decode cX4_takeKnownWords 11 = .ok (.iload 4, 2) := by decide +kernel
theorem dX4_takeKnownWords_13 : decode cX4_takeKnownWords 13 = .ok (.ifCond .le 14, 3) := by decide +kernel
theorem dX4_takeKnownWords_16 : decode cX4_takeKnownWords 16 = .ok (.aload_n 0, 1) := by decide +kernel
theorem dX4_takeKnownWords_17 : decode cX4_takeKnownWords 17 = .ok (.getfield 20, 3) := by decide +kernel
theorem dX4_takeKnownWords_20 : decode cX4_takeKnownWords 20 = .ok (.iconst 2, 1) := by decide +kernel
theorem dX4_takeKnownWords_21 : decode cX4_takeKnownWords 21 = .ok (.if_icmp .eq 6, 3) := by decide +kernel
theorem dX4_takeKnownWords_24 : decode cX4_takeKnownWords 24 = .ok (.goto 32, 3) := by decide +kernel
theorem dX4_takeKnownWords_27 : decode cX4_takeKnownWords 27 = .ok (.aload_n 0, 1) := by decide +kernel
theorem dX4_takeKnownWords_28 : decode cX4_takeKnownWords 28 = .ok (.iconst 0, 1) := by decide +kernel
theorem dX4_takeKnownWords_29 : decode cX4_takeKnownWords 29 = .ok (.bipush 8, 2) := by decide +kernel
theorem dX4_takeKnownWords_31 : decode cX4_takeKnownWords 31 = .ok (.invokevirtual 67, 3) := by decide +kernel
theorem dX4_takeKnownWords_34 : decode cX4_takeKnownWords 34 = .ok (.istore 5, 2) := by decide +kernel
theorem dX4_takeKnownWords_36 : decode cX4_takeKnownWords 36 = .ok (.iload 5, 2) := by decide +kernel
theorem dX4_takeKnownWords_38 : decode cX4_takeKnownWords 38 = .ok (.ifCond .ge 5, 3) := by decide +kernel
theorem dX4_takeKnownWords_41 : decode cX4_takeKnownWords 41 = .ok (.iconst 0, 1) := by decide +kernel
theorem dX4_takeKnownWords_42 : decode cX4_takeKnownWords 42 = .ok (.ireturn, 1) := by decide +kernel
theorem dX4_takeKnownWords_43 : decode cX4_takeKnownWords 43 = .ok (.iload_n 3, 1) := by decide +kernel
theorem dX4_takeKnownWords_44 : decode cX4_takeKnownWords 44 = .ok (.iconst 1, 1) := by decide +kernel
theorem dX4_takeKnownWords_45 : decode cX4_takeKnownWords 45 = .ok (.iload 5, 2) := by decide +kernel
theorem dX4_takeKnownWords_47 : decode cX4_takeKnownWords 47 = .ok (.ishl, 1) := by decide +kernel
theorem dX4_takeKnownWords_48 : decode cX4_takeKnownWords 48 = .ok (.ior, 1) := by decide +kernel
theorem dX4_takeKnownWords_49 : decode cX4_takeKnownWords 49 = .ok (.istore_n 3, 1) := by decide +kernel
theorem dX4_takeKnownWords_50 : decode cX4_takeKnownWords 50 = .ok (.iinc 4 1, 3) := by decide +kernel
theorem dX4_takeKnownWords_53 : decode cX4_takeKnownWords 53 = .ok (.goto (-48), 3) := by decide +kernel
theorem dX4_takeKnownWords_56 : decode cX4_takeKnownWords 56 = .ok (.aload_n 1, 1) := by decide +kernel
theorem dX4_takeKnownWords_57 : decode cX4_takeKnownWords 57 = .ok (.iload_n 2, 1) := by decide +kernel
theorem dX4_takeKnownWords_58 : decode cX4_takeKnownWords 58 = .ok (.iload_n 3, 1) := by decide +kernel
theorem dX4_takeKnownWords_59 : decode cX4_takeKnownWords 59 = .ok (.invokevirtual 106, 3) := by decide +kernel
theorem dX4_takeKnownWords_62 : decode cX4_takeKnownWords 62 = .ok (.pop, 1) := by decide +kernel
theorem dX4_takeKnownWords_63 : decode cX4_takeKnownWords 63 = .ok (.iconst 1, 1) := by decide +kernel
theorem dX4_takeKnownWords_64 : decode cX4_takeKnownWords 64 = .ok (.ireturn, 1) := by decide +kernel
theorem dX4_takeSea_0 : decode cX4_takeSea 0 = .ok (.aload_n 0, 1) := by decide +kernel
theorem dX4_takeSea_1 : decode cX4_takeSea 1 = .ok (.iconst 0, 1) := by decide +kernel
theorem dX4_takeSea_2 : decode cX4_takeSea 2 = .ok (.bipush 27, 2) := by decide +kernel
theorem dX4_takeSea_4 : decode cX4_takeSea 4 = .ok (.invokevirtual 67, 3) := by decide +kernel
theorem dX4_takeSea_7 : decode cX4_takeSea 7 = .ok (.istore_n 2, 1) := by decide +kernel
theorem dX4_takeSea_8 : decode cX4_takeSea 8 = .ok (.iload_n 2, 1) := by decide +kernel
theorem dX4_takeSea_9 : decode cX4_takeSea 9 = .ok (.ifCond .ge 5, 3) := by decide +kernel
theorem dX4_takeSea_12 : decode cX4_takeSea 12 = .ok (.iconst 0, 1) := by decide +kernel
theorem dX4_takeSea_13 : decode cX4_takeSea 13 = .ok (.ireturn, 1) := by decide +kernel
theorem dX4_takeSea_14 : decode cX4_takeSea 14 = .ok (.aload_n 0, 1) := by decide +kernel
theorem dX4_takeSea_15 : decode cX4_takeSea 15 = .ok (.iconst 0, 1) := by decide +kernel
theorem dX4_takeSea_16 : decode cX4_takeSea 16 = .ok (.bipush 12, 2) := by decide +kernel
theorem dX4_takeSea_18 : decode cX4_takeSea 18 = .ok (.invokevirtual 67, 3) := by decide +kernel
theorem dX4_takeSea_21 : decode cX4_takeSea 21 = .ok (.istore_n 3, 1) := by decide +kernel
theorem dX4_takeSea_22 : decode cX4_takeSea 22 = .ok (.iload_n 3, 1) := by decide +kernel
theorem dX4_takeSea_23 : decode cX4_takeSea 23 = .ok (.ifCond .ge 5, 3) := by decide +kernel
theorem dX4_takeSea_26 : decode cX4_takeSea 26 = .ok (.iconst 0, 1) := by decide +kernel
theorem dX4_takeSea_27 : decode cX4_takeSea 27 = .ok (.ireturn, 1) := by decide +kernel
theorem dX4_takeSea_28 : decode cX4_takeSea 28 = .ok (.aload_n 1, 1) := by decide +kernel
theorem dX4_takeSea_29 : decode cX4_takeSea 29 = .ok (.getfield 109, 3) := by decide +kernel
theorem dX4_takeSea_32 : decode cX4_takeSea 32 = .ok (.iload_n 2, 1) := by decide +kernel
theorem dX4_takeSea_33 : decode cX4_takeSea 33 = .ok (.iload_n 3, 1) := by decide +kernel
theorem dX4_takeSea_34 : decode cX4_takeSea 34 = .ok (.iastore, 1) := by decide +kernel
theorem dX4_takeSea_35 : decode cX4_takeSea 35 = .ok (.iconst 1, 1) := by decide +kernel
theorem dX4_takeSea_36 : decode cX4_takeSea 36 = .ok (.ireturn, 1) := by decide +kernel
