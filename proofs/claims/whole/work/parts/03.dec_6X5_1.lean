theorem dX5_change_48 : decode cX5_change 48 = .ok (.getfield 195, 3) := by decide +kernel
theorem dX5_change_51 : decode cX5_change 51 = .ok (.if_icmp .ge 72, 3) := by decide +kernel
theorem dX5_change_54 : decode cX5_change 54 = .ok (.aload_n 0, 1) := by decide +kernel
theorem dX5_change_55 : decode cX5_change 55 = .ok (.invokevirtual 165, 3) := by decide +kernel
theorem dX5_change_58 : decode cX5_change 58 = .ok (.aload_n 0, 1) := by decide +kernel
theorem dX5_change_59 : decode cX5_change 59 = .ok (.getfield 16, 3) := by decide +kernel
theorem dX5_change_62 : decode cX5_change 62 = .ok (.iload 4, 2) := by decide +kernel
theorem dX5_change_64 : decode cX5_change 64 = .ok (.aload_n 0, 1) := by decide +kernel
theorem dX5_change_65 : decode cX5_change 65 = .ok (.getfield 16, 3) := by decide +kernel
theorem dX5_change_68 : decode cX5_change 68 = .ok (.getfield 96, 3) := by decide +kernel
theorem dX5_change_71 : decode cX5_change 71 = .ok (.iload 4, 2) := by decide +kernel
theorem dX5_change_73 : decode cX5_change 73 = .ok (.iaload, 1) := by decide +kernel
theorem dX5_change_74 : decode cX5_change 74 = .ok (.iconst 1, 1) := by decide +kernel
theorem dX5_change_75 : decode cX5_change 75 = .ok (.if_icmp .ne 7, 3) := by decide +kernel
theorem dX5_change_78 : decode cX5_change 78 = .ok (.iconst 0, 1) := by decide +kernel
theorem dX5_change_79 : decode cX5_change 79 = .ok (.goto 4, 3) := by decide +kernel
theorem dX5_change_82 : decode cX5_change 82 = .ok (.iconst 1, 1) := by decide +kernel
theorem dX5_change_83 : decode cX5_change 83 = .ok (.invokevirtual 120, 3) := by decide +kernel
theorem dX5_change_86 : decode cX5_change 86 = .ok (.pop, 1) := by decide +kernel
theorem dX5_change_87 : decode cX5_change 87 = .ok (.aload_n 0, 1) := by decide +kernel
theorem dX5_change_88 : decode cX5_change 88 = .ok (.getfield 16, 3) := by decide +kernel
theorem dX5_change_91 : decode cX5_change 91 = .ok (.iload_n 1, 1) := by decide +kernel
theorem dX5_change_92 : decode cX5_change 92 = .ok (.invokevirtual 139, 3) := by decide +kernel
theorem dX5_change_95 : decode cX5_change 95 = .ok (.aload_n 0, 1) := by decide +kernel
theorem dX5_change_96 : decode cX5_change 96 = .ok (.getfield 16, 3) := by decide +kernel
theorem dX5_change_99 : decode cX5_change 99 = .ok (.getfield 150, 3) := by decide +kernel
theorem dX5_change_102 : decode cX5_change 102 = .ok (.iload_n 2, 1) := by decide +kernel
theorem dX5_change_103 : decode cX5_change 103 = .ok (.if_icmp .le 14, 3) := by decide +kernel
theorem dX5_change_106 : decode cX5_change 106 = .ok (.aload_n 0, 1) := by decide +kernel
theorem dX5_change_107 : decode cX5_change 107 = .ok (.getfield 16, 3) := by decide +kernel
theorem dX5_change_110 : decode cX5_change 110 = .ok (.getfield 150, 3) := by decide +kernel
theorem dX5_change_113 : decode cX5_change 113 = .ok (.istore_n 2, 1) := by decide +kernel
theorem dX5_change_114 : decode cX5_change 114 = .ok (.iload 4, 2) := by decide +kernel
theorem dX5_change_116 : decode cX5_change 116 = .ok (.istore_n 3, 1) := by decide +kernel
theorem dX5_change_117 : decode cX5_change 117 = .ok (.iinc 4 1, 3) := by decide +kernel
theorem dX5_change_120 : decode cX5_change 120 = .ok (.goto (-78), 3) := by decide +kernel
theorem dX5_change_123 : decode cX5_change 123 = .ok (.iload_n 3, 1) := by decide +kernel
theorem dX5_change_124 : decode cX5_change 124 = .ok (.ifCond .ge 12, 3) := by decide +kernel
theorem dX5_change_127 : decode cX5_change 127 = .ok (.aload_n 0, 1) := by decide +kernel
theorem dX5_change_128 : decode cX5_change 128 = .ok (.ldc 171, 2) := by decide +kernel
theorem dX5_change_130 : decode cX5_change 130 = .ok (.invokevirtual 49, 3) := by decide +kernel
theorem dX5_change_133 : decode cX5_change 133 = .ok (.goto 4, 3) := by decide +kernel
theorem dX5_change_136 : decode cX5_change 136 = .ok (.iload_n 3, 1) := by decide +kernel
theorem dX5_change_137 : decode cX5_change 137 = .ok (.ireturn, 1) := by decide +kernel
theorem dX5_heard_0 : decode cX5_heard 0 = .ok (.iload_n 1, 1) := by decide +kernel
theorem dX5_heard_1 : decode cX5_heard 1 = .ok (.invokestatic 175, 3) := by decide +kernel
theorem dX5_heard_4 : decode cX5_heard 4 = .ok (.ifCond .eq 14, 3) := by decide +kernel
theorem dX5_heard_7 : decode cX5_heard 7 = .ok (.iload_n 2, 1) := by decide +kernel
theorem dX5_heard_8 : decode cX5_heard 8 = .ok (.iconst 0, 1) := by decide +kernel
theorem dX5_heard_9 : decode cX5_heard 9 = .ok (.sipush 200, 3) := by decide +kernel
theorem dX5_heard_12 : decode cX5_heard 12 = .ok (.invokestatic 44, 3) := by decide +kernel
theorem dX5_heard_15 : decode cX5_heard 15 = .ok (.ifCond .ne 10, 3) := by decide +kernel
theorem dX5_heard_18 : decode cX5_heard 18 = .ok (.aload_n 0, 1) := by decide +kernel
theorem dX5_heard_19 : decode cX5_heard 19 = .ok (.ldc 48, 2) := by decide +kernel
theorem dX5_heard_21 : decode cX5_heard 21 = .ok (.invokevirtual 49, 3) := by decide +kernel
theorem dX5_heard_24 : decode cX5_heard 24 = .ok (.ireturn, 1) := by decide +kernel
theorem dX5_heard_25 : decode cX5_heard 25 = .ok (.aload_n 0, 1) := by decide +kernel
theorem dX5_heard_26 : decode cX5_heard 26 = .ok (.invokevirtual 165, 3) := by decide +kernel
theorem dX5_heard_29 : decode cX5_heard 29 = .ok (.aload_n 0, 1) := by decide +kernel
theorem dX5_heard_30 : decode cX5_heard 30 = .ok (.getfield 16, 3) := by decide +kernel
theorem dX5_heard_33 : decode cX5_heard 33 = .ok (.iload_n 2, 1) := by decide +kernel
theorem dX5_heard_34 : decode cX5_heard 34 = .ok (.invokevirtual 139, 3) := by decide +kernel
theorem dX5_heard_37 : decode cX5_heard 37 = .ok (.aload_n 0, 1) := by decide +kernel
theorem dX5_heard_38 : decode cX5_heard 38 = .ok (.getfield 16, 3) := by decide +kernel
theorem dX5_heard_41 : decode cX5_heard 41 = .ok (.iload_n 1, 1) := by decide +kernel
theorem dX5_heard_42 : decode cX5_heard 42 = .ok (.invokevirtual 198, 3) := by decide +kernel
theorem dX5_heard_45 : decode cX5_heard 45 = .ok (.ireturn, 1) := by decide +kernel
theorem dX5_feed_0 : decode cX5_feed 0 = .ok (.iload_n 2, 1) := by decide +kernel
theorem dX5_feed_1 : decode cX5_feed 1 = .ok (.iconst 1, 1) := by decide +kernel
theorem dX5_feed_2 : decode cX5_feed 2 = .ok (.iconst 4, 1) := by decide +kernel
theorem dX5_feed_3 : decode cX5_feed 3 = .ok (.invokestatic 44, 3) := by decide +kernel
theorem dX5_feed_6 : decode cX5_feed 6 = .ok (.ifCond .ne 10, 3) := by decide +kernel
theorem dX5_feed_9 : decode cX5_feed 9 = .ok (.aload_n 0, 1) := by decide +kernel
theorem dX5_feed_10 : decode cX5_feed 10 = .ok (.ldc 48, 2) := by decide +kernel
theorem dX5_feed_12 : decode cX5_feed 12 = .ok (.invokevirtual 49, 3) := by decide +kernel
theorem dX5_feed_15 : decode cX5_feed 15 = .ok (.ireturn, 1) := by decide +kernel
theorem dX5_feed_16 : decode cX5_feed 16 = .ok (.aload_n 0, 1) := by decide +kernel
theorem dX5_feed_17 : decode cX5_feed 17 = .ok (.getfield 29, 3) := by decide +kernel
theorem dX5_feed_20 : decode cX5_feed 20 = .ok (.getfield 201, 3) := by decide +kernel
theorem dX5_feed_23 : decode cX5_feed 23 = .ok (.iload_n 2, 1) := by decide +kernel
theorem dX5_feed_24 : decode cX5_feed 24 = .ok (.iadd, 1) := by decide +kernel
theorem dX5_feed_25 : decode cX5_feed 25 = .ok (.bipush 120, 2) := by decide +kernel
theorem dX5_feed_27 : decode cX5_feed 27 = .ok (.if_icmp .le 10, 3) := by decide +kernel
theorem dX5_feed_30 : decode cX5_feed 30 = .ok (.aload_n 0, 1) := by decide +kernel
theorem dX5_feed_31 : decode cX5_feed 31 = .ok (.ldc 86, 2) := by decide +kernel
theorem dX5_feed_33 : decode cX5_feed 33 = .ok (.invokevirtual 49, 3) := by decide +kernel
theorem dX5_feed_36 : decode cX5_feed 36 = .ok (.ireturn, 1) := by decide +kernel
theorem dX5_feed_37 : decode cX5_feed 37 = .ok (.iload_n 2, 1) := by decide +kernel
theorem dX5_feed_38 : decode cX5_feed 38 = .ok (.iconst 1, 1) := by decide +kernel
theorem dX5_feed_39 : decode cX5_feed 39 = .ok (.isub, 1) := by decide +kernel
theorem dX5_feed_40 : decode cX5_feed 40 = .ok (.istore_n 3, 1) := by decide +kernel
theorem dX5_feed_41 : decode cX5_feed 41 = .ok (.iload_n 3, 1) := by decide +kernel
theorem dX5_feed_42 : decode cX5_feed 42 = .ok (.ifCond .lt 26, 3) := by decide +kernel
theorem dX5_feed_45 : decode cX5_feed 45 = .ok (.aload_n 0, 1) := by decide +kernel
theorem dX5_feed_46 : decode cX5_feed 46 = .ok (.getfield 29, 3) := by decide +kernel
theorem dX5_feed_49 : decode cX5_feed 49 = .ok (.iload_n 1, 1) := by decide +kernel
theorem dX5_feed_50 : decode cX5_feed 50 = .ok (.bipush 8, 2) := by decide +kernel
theorem dX5_feed_52 : decode cX5_feed 52 = .ok (.iload_n 3, 1) := by decide +kernel
theorem dX5_feed_53 : decode cX5_feed 53 = .ok (.imul, 1) := by decide +kernel
theorem dX5_feed_54 : decode cX5_feed 54 = .ok (.iushr, 1) := by decide +kernel
theorem dX5_feed_55 : decode cX5_feed 55 = .ok (.sipush 255, 3) := by decide +kernel
theorem dX5_feed_58 : decode cX5_feed 58 = .ok (.iand, 1) := by decide +kernel
theorem dX5_feed_59 : decode cX5_feed 59 = .ok (.invokevirtual 204, 3) := by decide +kernel
theorem dX5_feed_62 : decode cX5_feed 62 = .ok (.iinc 3 (-1), 3) := by decide +kernel
theorem dX5_feed_65 : decode cX5_feed 65 = .ok (.goto (-24), 3) := by decide +kernel
theorem dX5_feed_68 : decode cX5_feed 68 = .ok (.aload_n 0, 1) := by decide +kernel
theorem dX5_feed_69 : decode cX5_feed 69 = .ok (.getfield 29, 3) := by decide +kernel
theorem dX5_feed_72 : decode cX5_feed 72 = .ok (.getfield 201, 3) := by decide +kernel
theorem dX5_feed_75 : decode cX5_feed 75 = .ok (.ireturn, 1) := by decide +kernel
theorem dX5_wipe_0 : decode cX5_wipe 0 = .ok (.aload_n 0, 1) := by decide +kernel
theorem dX5_wipe_1 : decode cX5_wipe 1 = .ok (.getfield 29, 3) := by decide +kernel
theorem dX5_wipe_4 : decode cX5_wipe 4 = .ok (.getfield 201, 3) := by decide +kernel
theorem dX5_wipe_7 : decode cX5_wipe 7 = .ok (.istore_n 1, 1) := by decide +kernel
theorem dX5_wipe_8 : decode cX5_wipe 8 = .ok (.aload_n 0, 1) := by decide +kernel
theorem dX5_wipe_9 : decode cX5_wipe 9 = .ok (.getfield 29, 3) := by decide +kernel
theorem dX5_wipe_12 : decode cX5_wipe 12 = .ok (.iconst 0, 1) := by decide +kernel
theorem dX5_wipe_13 : decode cX5_wipe 13 = .ok (.putfield 201, 3) := by decide +kernel
theorem dX5_wipe_16 : decode cX5_wipe 16 = .ok (.iload_n 1, 1) := by decide +kernel
theorem dX5_wipe_17 : decode cX5_wipe 17 = .ok (.ireturn, 1) := by decide +kernel
theorem dX5_text_0 : decode cX5_text 0 = .ok (.aload_n 0, 1) := by decide +kernel
theorem dX5_text_1 : decode cX5_text 1 = .ok (.invokevirtual 165, 3) := by decide +kernel
theorem dX5_text_4 : decode cX5_text 4 = .ok (.aload_n 0, 1) := by decide +kernel
theorem dX5_text_5 : decode cX5_text 5 = .ok (.getfield 29, 3) := by decide +kernel
theorem dX5_text_8 : decode cX5_text 8 = .ok (.aload_n 0, 1) := by decide +kernel
theorem dX5_text_9 : decode cX5_text 9 = .ok (.getfield 16, 3) := by decide +kernel
theorem dX5_text_12 : decode cX5_text 12 = .ok (.invokestatic 207, 3) := by decide +kernel
theorem dX5_text_15 : decode cX5_text 15 = .ok (.istore_n 1, 1) := by decide +kernel
theorem dX5_text_16 : decode cX5_text 16 = .ok (.iload_n 1, 1) := by decide +kernel
theorem dX5_text_17 : decode cX5_text 17 = .ok (.ifCond .le 14, 3) := by decide +kernel
theorem dX5_text_20 : decode cX5_text 20 = .ok (.aload_n 0, 1) := by decide +kernel
theorem dX5_text_21 : decode cX5_text 21 = .ok (.getfield 10, 3) := by decide +kernel
theorem dX5_text_24 : decode cX5_text 24 = .ok (.aload_n 0, 1) := by decide +kernel
theorem dX5_text_25 : decode cX5_text 25 = .ok (.getfield 16, 3) := by decide +kernel
theorem dX5_text_28 : decode cX5_text 28 = .ok (.invokevirtual 213, 3) := by decide +kernel
theorem dX5_text_31 : decode cX5_text 31 = .ok (.aload_n 0, 1) := by decide +kernel
theorem dX5_text_32 : decode cX5_text 32 = .ok (.getfield 29, 3) := by decide +kernel
theorem dX5_text_35 : decode cX5_text 35 = .ok (.iconst 0, 1) := by decide +kernel
theorem dX5_text_36 : decode cX5_text 36 = .ok (.putfield 201, 3) := by decide +kernel
theorem dX5_text_39 : decode cX5_text 39 = .ok (.iload_n 1, 1) := by decide +kernel
theorem dX5_text_40 : decode cX5_text 40 = .ok (.ireturn, 1) := by decide +kernel
theorem dX5_sheet_0 : decode cX5_sheet 0 = .ok (.aload_n 0, 1) := by decide +kernel
theorem dX5_sheet_1 : decode cX5_sheet 1 = .ok (.iload_n 1, 1) := by decide +kernel
theorem dX5_sheet_2 : decode cX5_sheet 2 = .ok (.invokevirtual 217, 3) := by decide +kernel
theorem dX5_sheet_5 : decode cX5_sheet 5 = .ok (.astore 4, 2) := by decide +kernel
theorem dX5_sheet_7 : decode cX5_sheet 7 = .ok (.aload 4, 2) := by decide +kernel
theorem dX5_sheet_9 : decode cX5_sheet 9 = .ok (.ifnull 10, 3) := by decide +kernel
theorem dX5_sheet_12 : decode cX5_sheet 12 = .ok (.iload_n 2, 1) := by decide +kernel
theorem dX5_sheet_13 : decode cX5_sheet 13 = .ok (.invokestatic 221, 3) := by decide +kernel
theorem dX5_sheet_16 : decode cX5_sheet 16 = .ok (.ifCond .ne 10, 3) := by decide +kernel
theorem dX5_sheet_19 : decode cX5_sheet 19 = .ok (.aload_n 0, 1) := by decide +kernel
theorem dX5_sheet_20 : decode cX5_sheet 20 = .ok (.ldc 48, 2) := by decide +kernel
theorem dX5_sheet_22 : decode cX5_sheet 22 = .ok (.invokevirtual 49, 3) := by decide +kernel
theorem dX5_sheet_25 : decode cX5_sheet 25 = .ok (.ireturn, 1) := by decide +kernel
theorem dX5_sheet_26 : decode cX5_sheet 26 = .ok (.iload_n 3, 1) := by decide +kernel
theorem dX5_sheet_27 : decode cX5_sheet 27 = .ok (.ifCond .ge 10, 3) := by decide +kernel
theorem dX5_sheet_30 : decode cX5_sheet 30 = .ok (.aload_n 0, 1) := by decide +kernel
theorem dX5_sheet_31 : decode cX5_sheet 31 = .ok (.ldc 224, 2) := by decide +kernel
theorem dX5_sheet_33 : decode cX5_sheet 33 = .ok (.invokevirtual 49, 3) := by decide +kernel
theorem dX5_sheet_36 : decode cX5_sheet 36 = .ok (.ireturn, 1) := by decide +kernel
theorem dX5_sheet_37 : decode cX5_sheet 37 = .ok (.iload_n 3, 1) := by decide +kernel
theorem dX5_sheet_38 : decode cX5_sheet 38 = .ok (.bipush 40, 2) := by decide +kernel
theorem dX5_sheet_40 : decode cX5_sheet 40 = .ok (.if_icmp .le 10, 3) := by decide +kernel
theorem dX5_sheet_43 : decode cX5_sheet 43 = .ok (.aload_n 0, 1) := by decide +kernel
theorem dX5_sheet_44 : decode cX5_sheet 44 = .ok (.ldc 48, 2) := by decide +kernel
theorem dX5_sheet_46 : decode cX5_sheet 46 = .ok (.invokevirtual 49, 3) := by decide +kernel
theorem dX5_sheet_49 : decode cX5_sheet 49 = .ok (.ireturn, 1) := by decide +kernel
theorem dX5_sheet_50 : decode cX5_sheet 50 = .ok (.aload 4, 2) := by decide +kernel
theorem dX5_sheet_52 : decode cX5_sheet 52 = .ok (.iload_n 2, 1) := by decide +kernel
theorem dX5_sheet_53 : decode cX5_sheet 53 = .ok (.iload_n 3, 1) := by decide +kernel
theorem dX5_sheet_54 : decode cX5_sheet 54 = .ok (.invokevirtual 225, 3) := by decide +kernel
theorem dX5_sheet_57 : decode cX5_sheet 57 = .ok (.aload 4, 2) := by decide +kernel
theorem dX5_sheet_59 : decode cX5_sheet 59 = .ok (.getfield 228, 3) := by decide +kernel
theorem dX5_sheet_62 : decode cX5_sheet 62 = .ok (.ireturn, 1) := by decide +kernel
theorem dX5_write_0 : decode cX5_write 0 = .ok (.aload_n 0, 1) := by decide +kernel
theorem dX5_write_1 : decode cX5_write 1 = .ok (.iload_n 1, 1) := by decide +kernel
theorem dX5_write_2 : decode cX5_write 2 = .ok (.invokevirtual 217, 3) := by decide +kernel
theorem dX5_write_5 : decode cX5_write 5 = .ok (.astore 5, 2) := by decide +kernel
theorem dX5_write_7 : decode cX5_write 7 = .ok (.aload 5, 2) := by decide +kernel
theorem dX5_write_9 : decode cX5_write 9 = .ok (.ifnonnull 11, 3) := by decide +kernel
theorem dX5_write_12 : decode cX5_write 12 = .ok (.aload_n 0, 1) := by decide +kernel
theorem dX5_write_13 : decode cX5_write 13 = .ok (.ldc 48, 2) := by decide +kernel
theorem dX5_write_15 : decode cX5_write 15 = .ok (.invokevirtual 49, 3) := by decide +kernel
theorem dX5_write_18 : decode cX5_write 18 = .ok (.i2l, 1) := by decide +kernel
theorem dX5_write_19 : decode cX5_write 19 = .ok (.lreturn, 1) := by decide +kernel
theorem dX5_write_20 : decode cX5_write 20 = .ok (.aload 5, 2) := by decide +kernel
theorem dX5_write_22 : decode cX5_write 22 = .ok (.invokevirtual 231, 3) := by decide +kernel
theorem dX5_write_25 : decode cX5_write 25 = .ok (.ifCond .eq 11, 3) := by decide +kernel
theorem dX5_write_28 : decode cX5_write 28 = .ok (.aload_n 0, 1) := by decide +kernel
theorem dX5_write_29 : decode cX5_write 29 = .ok (.ldc 234, 2) := by decide +kernel
theorem dX5_write_31 : decode cX5_write 31 = .ok (.invokevirtual 49, 3) := by decide +kernel
theorem dX5_write_34 : decode cX5_write 34 = .ok (.i2l, 1) := by decide +kernel
theorem dX5_write_35 : decode cX5_write 35 = .ok (.lreturn, 1) := by decide +kernel
theorem dX5_write_36 : decode cX5_write 36 = .ok (.iload_n 2, 1) := by decide +kernel
theorem dX5_write_37 : decode cX5_write 37 = .ok (.iconst 0, 1) := by decide +kernel
theorem dX5_write_38 : decode cX5_write 38 = .ok (.aload 5, 2) := by decide +kernel
theorem dX5_write_40 : decode cX5_write 40 = .ok (.getfield 228, 3) := by decide +kernel
theorem dX5_write_43 : decode cX5_write 43 = .ok (.iconst 1, 1) := by decide +kernel
theorem dX5_write_44 : decode cX5_write 44 = .ok (.isub, 1) := by decide +kernel
theorem dX5_write_45 : decode cX5_write 45 = .ok (.invokestatic 44, 3) := by decide +kernel
theorem dX5_write_48 : decode cX5_write 48 = .ok (.ifCond .ne 11, 3) := by decide +kernel
theorem dX5_write_51 : decode cX5_write 51 = .ok (.aload_n 0, 1) := by decide +kernel
theorem dX5_write_52 : decode cX5_write 52 = .ok (.ldc 48, 2) := by decide +kernel
theorem dX5_write_54 : decode cX5_write 54 = .ok (.invokevirtual 49, 3) := by decide +kernel
theorem dX5_write_57 : decode cX5_write 57 = .ok (.i2l, 1) := by decide +kernel
theorem dX5_write_58 : decode cX5_write 58 = .ok (.lreturn, 1) := by decide +kernel
theorem dX5_write_59 : decode cX5_write 59 = .ok (.aload 5, 2) := by decide +kernel
theorem dX5_write_61 : decode cX5_write 61 = .ok (.getfield 235, 3) := by decide +kernel
theorem dX5_write_64 : decode cX5_write 64 = .ok (.iload_n 2, 1) := by decide +kernel
theorem dX5_write_65 : decode cX5_write 65 = .ok (.laload, 1) := by decide +kernel
theorem dX5_write_66 : decode cX5_write 66 = .ok (.lstore 6, 2) := by decide +kernel
theorem dX5_write_68 : decode cX5_write 68 = .ok (.aload 5, 2) := by decide +kernel
theorem dX5_write_70 : decode cX5_write 70 = .ok (.iload_n 2, 1) := by decide +kernel
theorem dX5_write_71 : decode cX5_write 71 = .ok (.lload_n 3, 1) := by decide +kernel
theorem dX5_write_72 : decode cX5_write 72 = .ok (.invokevirtual 239, 3) := by decide +kernel
theorem dX5_write_75 : decode cX5_write 75 = .ok (.lload 6, 2) := by decide +kernel
theorem dX5_write_77 : decode cX5_write 77 = .ok (.lreturn, 1) := by decide +kernel
theorem dX5_copy_0 : decode cX5_copy 0 = .ok (.aload_n 0, 1) := by decide +kernel
theorem dX5_copy_1 : decode cX5_copy 1 = .ok (.iload_n 1, 1) := by decide +kernel
theorem dX5_copy_2 : decode cX5_copy 2 = .ok (.invokevirtual 217, 3) := by decide +kernel
theorem dX5_copy_5 : decode cX5_copy 5 = .ok (.astore 6, 2) := by decide +kernel
theorem dX5_copy_7 : decode cX5_copy 7 = .ok (.aload_n 0, 1) := by decide +kernel
theorem dX5_copy_8 : decode cX5_copy 8 = .ok (.iload_n 3, 1) := by decide +kernel
theorem dX5_copy_9 : decode cX5_copy 9 = .ok (.invokevirtual 217, 3) := by decide +kernel
theorem dX5_copy_12 : decode cX5_copy 12 = .ok (.astore 7, 2) := by decide +kernel
theorem dX5_copy_14 : decode cX5_copy 14 = .ok (.aload 6, 2) := by decide +kernel
theorem dX5_copy_16 : decode cX5_copy 16 = .ok (.ifnull 8, 3) := by decide +kernel
theorem dX5_copy_19 : decode cX5_copy 19 = .ok (.aload 7, 2) := by decide +kernel
theorem dX5_copy_21 : decode cX5_copy 21 = .ok (.ifnonnull 10, 3) := by decide +kernel
theorem dX5_copy_24 : decode cX5_copy 24 = .ok (.aload_n 0, 1) := by decide +kernel
theorem dX5_copy_25 : decode cX5_copy 25 = .ok (.ldc 48, 2) := by decide +kernel
theorem dX5_copy_27 : decode cX5_copy 27 = .ok (.invokevirtual 49, 3) := by decide +kernel
theorem dX5_copy_30 : decode cX5_copy 30 = .ok (.ireturn, 1) := by decide +kernel
theorem dX5_copy_31 : decode cX5_copy 31 = .ok (.aload 6, 2) := by decide +kernel
theorem dX5_copy_33 : decode cX5_copy 33 = .ok (.invokevirtual 231, 3) := by decide +kernel
theorem dX5_copy_36 : decode cX5_copy 36 = .ok (.ifCond .ne 11, 3) := by decide +kernel
theorem dX5_copy_39 : decode cX5_copy 39 = .ok (.aload 7, 2) := by decide +kernel
theorem dX5_copy_41 : decode cX5_copy 41 = .ok (.invokevirtual 231, 3) := by decide +kernel
theorem dX5_copy_44 : decode cX5_copy 44 = .ok (.ifCond .eq 10, 3) := by decide +kernel
theorem dX5_copy_47 : decode cX5_copy 47 = .ok (.aload_n 0, 1) := by decide +kernel
theorem dX5_copy_48 : decode cX5_copy 48 = .ok (.ldc 234, 2) := by decide +kernel
theorem dX5_copy_50 : decode cX5_copy 50 = .ok (.invokevirtual 49, 3) := by decide +kernel
theorem dX5_copy_53 : decode cX5_copy 53 = .ok (.ireturn, 1) := by decide +kernel
theorem dX5_copy_54 : decode cX5_copy 54 = .ok (.aload 6, 2) := by decide +kernel
theorem dX5_copy_56 : decode cX5_copy 56 = .ok (.getfield 243, 3) := by decide +kernel
theorem dX5_copy_59 : decode cX5_copy 59 = .ok (.aload 7, 2) := by decide +kernel
theorem dX5_copy_61 : decode cX5_copy 61 = .ok (.getfield 243, 3) := by decide +kernel
theorem dX5_copy_64 : decode cX5_copy 64 = .ok (.if_icmp .eq 10, 3) := by decide +kernel
theorem dX5_copy_67 : decode cX5_copy 67 = .ok (.aload_n 0, 1) := by decide +kernel
theorem dX5_copy_68 : decode cX5_copy 68 = .ok (.ldc 133, 2) := by decide +kernel
theorem dX5_copy_70 : decode cX5_copy 70 = .ok (.invokevirtual 49, 3) := by decide +kernel
theorem dX5_copy_73 : decode cX5_copy 73 = .ok (.ireturn, 1) := by decide +kernel
theorem dX5_copy_74 : decode cX5_copy 74 = .ok (.aload 6, 2) := by decide +kernel
theorem dX5_copy_76 : decode cX5_copy 76 = .ok (.iload_n 2, 1) := by decide +kernel
theorem dX5_copy_77 : decode cX5_copy 77 = .ok (.iload 5, 2) := by decide +kernel
theorem dX5_copy_79 : decode cX5_copy 79 = .ok (.invokevirtual 246, 3) := by decide +kernel
theorem dX5_copy_82 : decode cX5_copy 82 = .ok (.ifCond .eq 15, 3) := by decide +kernel
theorem dX5_copy_85 : decode cX5_copy 85 = .ok (.aload 7, 2) := by decide +kernel
theorem dX5_copy_87 : decode cX5_copy 87 = .ok (.iload 4, 2) := by decide +kernel
theorem dX5_copy_89 : decode cX5_copy 89 = .ok (.iload 5, 2) := by decide +kernel
theorem dX5_copy_91 : decode cX5_copy 91 = .ok (.invokevirtual 246, 3) := by decide +kernel
theorem dX5_copy_94 : decode cX5_copy 94 = .ok (.ifCond .ne 10, 3) := by decide +kernel
theorem dX5_copy_97 : decode cX5_copy 97 = .ok (.aload_n 0, 1) := by decide +kernel
theorem dX5_copy_98 : decode cX5_copy 98 = .ok (.ldc 48, 2) := by decide +kernel
theorem dX5_copy_100 : decode cX5_copy 100 = .ok (.invokevirtual 49, 3) := by decide +kernel
theorem dX5_copy_103 : decode cX5_copy 103 = .ok (.ireturn, 1) := by decide +kernel
theorem dX5_copy_104 : decode cX5_copy 104 = .ok (.aload 6, 2) := by decide +kernel
theorem dX5_copy_106 : decode cX5_copy 106 = .ok (.getfield 235, 3) := by decide +kernel
theorem dX5_copy_109 : decode cX5_copy 109 = .ok (.iload_n 2, 1) := by decide +kernel
theorem dX5_copy_110 : decode cX5_copy 110 = .ok (.aload 7, 2) := by decide +kernel
theorem dX5_copy_112 : decode cX5_copy 112 = .ok (.getfield 235, 3) := by decide +kernel
theorem dX5_copy_115 : decode cX5_copy 115 = .ok (.iload 4, 2) := by decide +kernel
theorem dX5_copy_117 : decode cX5_copy 117 = .ok (.iload 5, 2) := by decide +kernel
theorem dX5_copy_119 : decode cX5_copy 119 = .ok (.invokestatic 249, 3) := by decide +kernel
theorem dX5_copy_122 : decode cX5_copy 122 = .ok (.iload 5, 2) := by decide +kernel
theorem dX5_copy_124 : decode cX5_copy 124 = .ok (.ireturn, 1) := by decide +kernel
theorem dX5_lays_0 : decode cX5_lays 0 = .ok (.aload_n 0, 1) := by decide +kernel
theorem dX5_lays_1 : decode cX5_lays 1 = .ok (.iload_n 1, 1) := by decide +kernel
theorem dX5_lays_2 : decode cX5_lays 2 = .ok (.invokevirtual 217, 3) := by decide +kernel
theorem dX5_lays_5 : decode cX5_lays 5 = .ok (.astore_n 2, 1) := by decide +kernel
theorem dX5_lays_6 : decode cX5_lays 6 = .ok (.aload_n 2, 1) := by decide +kernel
theorem dX5_lays_7 : decode cX5_lays 7 = .ok (.ifnonnull 10, 3) := by decide +kernel
theorem dX5_lays_10 : decode cX5_lays 10 = .ok (.aload_n 0, 1) := by decide +kernel
theorem dX5_lays_11 : decode cX5_lays 11 = .ok (.ldc 48, 2) := by decide +kernel
theorem dX5_lays_13 : decode cX5_lays 13 = .ok (.invokevirtual 49, 3) := by decide +kernel
theorem dX5_lays_16 : decode cX5_lays 16 = .ok (.ireturn, 1) := by decide +kernel
theorem dX5_lays_17 : decode cX5_lays 17 = .ok (.aload_n 2, 1) := by decide +kernel
theorem dX5_lays_18 : decode cX5_lays 18 = .ok (.invokevirtual 231, 3) := by decide +kernel
theorem dX5_lays_21 : decode cX5_lays 21 = .ok (.ifCond .eq 10, 3) := by decide +kernel
theorem dX5_lays_24 : decode cX5_lays 24 = .ok (.aload_n 0, 1) := by decide +kernel
theorem dX5_lays_25 : decode cX5_lays 25 = .ok (.ldc 234, 2) := by decide +kernel
theorem dX5_lays_27 : decode cX5_lays 27 = .ok (.invokevirtual 49, 3) := by decide +kernel
theorem dX5_lays_30 : decode cX5_lays 30 = .ok (.ireturn, 1) := by decide +kernel
theorem dX5_lays_31 : decode cX5_lays 31 = .ok (.iconst 0, 1) := by decide +kernel
theorem dX5_lays_32 : decode cX5_lays 32 = .ok (.istore_n 3, 1) := by decide +kernel
theorem dX5_lays_33 : decode cX5_lays 33 = .ok (.iconst 0, 1) := by decide +kernel
theorem dX5_lays_34 : decode cX5_lays 34 = .ok (.istore 4, 2) := by decide +kernel
theorem dX5_lays_36 : decode cX5_lays 36 = .ok (.iload 4, 2) := by decide +kernel
theorem dX5_lays_38 : decode cX5_lays 38 = .ok (.aload_n 2, 1) := by decide +kernel
theorem dX5_lays_39 : decode cX5_lays 39 = .ok (.getfield 228, 3) := by decide +kernel
theorem dX5_lays_42 : decode cX5_lays 42 = .ok (.if_icmp .ge 57, 3) := by decide +kernel
theorem dX5_lays_45 : decode cX5_lays 45 = .ok (.iload 4, 2) := by decide +kernel
theorem dX5_lays_47 : decode cX5_lays 47 = .ok (.bipush 28, 2) := by decide +kernel
theorem dX5_lays_49 : decode cX5_lays 49 = .ok (.if_icmp .ge 50, 3) := by decide +kernel
theorem dX5_lays_52 : decode cX5_lays 52 = .ok (.aload_n 2, 1) := by decide +kernel
theorem dX5_lays_53 : decode cX5_lays 53 = .ok (.getfield 235, 3) := by decide +kernel
theorem dX5_lays_56 : decode cX5_lays 56 = .ok (.iload 4, 2) := by decide +kernel
theorem dX5_lays_58 : decode cX5_lays 58 = .ok (.laload, 1) := by decide +kernel
theorem dX5_lays_59 : decode cX5_lays 59 = .ok (.lstore 5, 2) := by decide +kernel
theorem dX5_lays_61 : decode cX5_lays 61 = .ok (.lload 5, 2) := by decide +kernel
theorem dX5_lays_63 : decode cX5_lays 63 = .ok (.lconst 0, 1) := by decide +kernel
theorem dX5_lays_64 : decode cX5_lays 64 = .ok (.lcmp, 1) := by decide +kernel
theorem dX5_lays_65 : decode cX5_lays 65 = .ok (.ifCond .lt 28, 3) := by decide +kernel
theorem dX5_lays_68 : decode cX5_lays 68 = .ok (.lload 5, 2) := by decide +kernel
theorem dX5_lays_70 : decode cX5_lays 70 = .ok (.ldc2_w 255, 3) := by decide +kernel
theorem dX5_lays_73 : decode cX5_lays 73 = .ok (.lcmp, 1) := by decide +kernel
theorem dX5_lays_74 : decode cX5_lays 74 = .ok (.ifCond .gt 19, 3) := by decide +kernel
theorem dX5_lays_77 : decode cX5_lays 77 = .ok (.aload_n 0, 1) := by decide +kernel
theorem dX5_lays_78 : decode cX5_lays 78 = .ok (.getfield 10, 3) := by decide +kernel
theorem dX5_lays_81 : decode cX5_lays 81 = .ok (.getfield 53, 3) := by decide +kernel
theorem dX5_lays_84 : decode cX5_lays 84 = .ok (.iload 4, 2) := by decide +kernel
theorem dX5_lays_86 : decode cX5_lays 86 = .ok (.lload 5, 2) := by decide +kernel
theorem dX5_lays_88 : decode cX5_lays 88 = .ok (.l2i, 1) := by decide +kernel
theorem dX5_lays_89 : decode cX5_lays 89 = .ok (.iastore, 1) := by decide +kernel
theorem dX5_lays_90 : decode cX5_lays 90 = .ok (.iinc 3 1, 3) := by decide +kernel
theorem dX5_lays_93 : decode cX5_lays 93 = .ok (.iinc 4 1, 3) := by decide +kernel
theorem dX5_lays_96 : decode cX5_lays 96 = .ok (.goto (-60), 3) := by decide +kernel
theorem dX5_lays_99 : decode cX5_lays 99 = .ok (.iload_n 3, 1) := by decide +kernel
theorem dX5_lays_100 : decode cX5_lays 100 = .ok (.ireturn, 1) := by decide +kernel
theorem dX5_book_0 : decode cX5_book 0 = .ok (.aload_n 0, 1) := by decide +kernel
theorem dX5_book_1 : decode cX5_book 1 = .ok (.iload_n 1, 1) := by decide +kernel
theorem dX5_book_2 : decode cX5_book 2 = .ok (.invokevirtual 217, 3) := by decide +kernel
theorem dX5_book_5 : decode cX5_book 5 = .ok (.astore_n 2, 1) := by decide +kernel
theorem dX5_book_6 : decode cX5_book 6 = .ok (.aload_n 2, 1) := by decide +kernel
theorem dX5_book_7 : decode cX5_book 7 = .ok (.ifnonnull 10, 3) := by decide +kernel
theorem dX5_book_10 : decode cX5_book 10 = .ok (.aload_n 0, 1) := by decide +kernel
theorem dX5_book_11 : decode cX5_book 11 = .ok (.ldc 48, 2) := by decide +kernel
theorem dX5_book_13 : decode cX5_book 13 = .ok (.invokevirtual 49, 3) := by decide +kernel
theorem dX5_book_16 : decode cX5_book 16 = .ok (.ireturn, 1) := by decide +kernel
theorem dX5_book_17 : decode cX5_book 17 = .ok (.aload_n 2, 1) := by decide +kernel
theorem dX5_book_18 : decode cX5_book 18 = .ok (.invokevirtual 231, 3) := by decide +kernel
theorem dX5_book_21 : decode cX5_book 21 = .ok (.ifCond .eq 10, 3) := by decide +kernel
theorem dX5_book_24 : decode cX5_book 24 = .ok (.aload_n 0, 1) := by decide +kernel
theorem dX5_book_25 : decode cX5_book 25 = .ok (.ldc 234, 2) := by decide +kernel
theorem dX5_book_27 : decode cX5_book 27 = .ok (.invokevirtual 49, 3) := by decide +kernel
theorem dX5_book_30 : decode cX5_book 30 = .ok (.ireturn, 1) := by decide +kernel
theorem dX5_book_31 : decode cX5_book 31 = .ok (.aload_n 0, 1) := by decide +kernel
theorem dX5_book_32 : decode cX5_book 32 = .ok (.invokevirtual 165, 3) := by decide +kernel
theorem dX5_book_35 : decode cX5_book 35 = .ok (.iconst 0, 1) := by decide +kernel
theorem dX5_book_36 : decode cX5_book 36 = .ok (.istore_n 3, 1) := by decide +kernel
theorem dX5_book_37 : decode cX5_book 37 = .ok (.iload_n 3, 1) := by decide +kernel
theorem dX5_book_38 : decode cX5_book 38 = .ok (.aload_n 2, 1) := by decide +kernel
theorem dX5_book_39 : decode cX5_book 39 = .ok (.getfield 228, 3) := by decide +kernel
theorem dX5_book_42 : decode cX5_book 42 = .ok (.if_icmp .ge 29, 3) := by decide +kernel
theorem dX5_book_45 : decode cX5_book 45 = .ok (.aload_n 2, 1) := by decide +kernel
theorem dX5_book_46 : decode cX5_book 46 = .ok (.iload_n 3, 1) := by decide +kernel
theorem dX5_book_47 : decode cX5_book 47 = .ok (.aload_n 0, 1) := by decide +kernel
theorem dX5_book_48 : decode cX5_book 48 = .ok (.getfield 16, 3) := by decide +kernel
theorem dX5_book_51 : decode cX5_book 51 = .ok (.getfield 150, 3) := by decide +kernel
theorem dX5_book_54 : decode cX5_book 54 = .ok (.i2l, 1) := by decide +kernel
theorem dX5_book_55 : decode cX5_book 55 = .ok (.invokevirtual 239, 3) := by decide +kernel
theorem dX5_book_58 : decode cX5_book 58 = .ok (.aload_n 0, 1) := by decide +kernel
theorem dX5_book_59 : decode cX5_book 59 = .ok (.getfield 16, 3) := by decide +kernel
theorem dX5_book_62 : decode cX5_book 62 = .ok (.invokevirtual 172, 3) := by decide +kernel
theorem dX5_book_65 : decode cX5_book 65 = .ok (.iinc 3 1, 3) := by decide +kernel
theorem dX5_book_68 : decode cX5_book 68 = .ok (.goto (-31), 3) := by decide +kernel
theorem dX5_book_71 : decode cX5_book 71 = .ok (.aload_n 2, 1) := by decide +kernel
theorem dX5_book_72 : decode cX5_book 72 = .ok (.getfield 228, 3) := by decide +kernel
theorem dX5_book_75 : decode cX5_book 75 = .ok (.ireturn, 1) := by decide +kernel
theorem dX5_read_0 : decode cX5_read 0 = .ok (.aload_n 0, 1) := by decide +kernel
theorem dX5_read_1 : decode cX5_read 1 = .ok (.iload_n 1, 1) := by decide +kernel
theorem dX5_read_2 : decode cX5_read 2 = .ok (.invokevirtual 217, 3) := by decide +kernel
theorem dX5_read_5 : decode cX5_read 5 = .ok (.astore_n 3, 1) := by decide +kernel
theorem dX5_read_6 : decode cX5_read 6 = .ok (.aload_n 3, 1) := by decide +kernel
theorem dX5_read_7 : decode cX5_read 7 = .ok (.ifnonnull 10, 3) := by decide +kernel
theorem dX5_read_10 : decode cX5_read 10 = .ok (.aload_n 0, 1) := by decide +kernel
theorem dX5_read_11 : decode cX5_read 11 = .ok (.ldc 48, 2) := by decide +kernel
theorem dX5_read_13 : decode cX5_read 13 = .ok (.invokevirtual 49, 3) := by decide +kernel
theorem dX5_read_16 : decode cX5_read 16 = .ok (.ireturn, 1) := by decide +kernel
theorem dX5_read_17 : decode cX5_read 17 = .ok (.aload_n 3, 1) := by decide +kernel
theorem dX5_read_18 : decode cX5_read 18 = .ok (.invokevirtual 231, 3) := by decide +kernel
theorem dX5_read_21 : decode cX5_read 21 = .ok (.ifCond .eq 10, 3) := by decide +kernel
theorem dX5_read_24 : decode cX5_read 24 = .ok (.aload_n 0, 1) := by decide +kernel
theorem dX5_read_25 : decode cX5_read 25 = .ok (.ldc 234, 2) := by decide +kernel
theorem dX5_read_27 : decode cX5_read 27 = .ok (.invokevirtual 49, 3) := by decide +kernel
theorem dX5_read_30 : decode cX5_read 30 = .ok (.ireturn, 1) := by decide +kernel
theorem dX5_read_31 : decode cX5_read 31 = .ok (.aload_n 0, 1) := by decide +kernel
theorem dX5_read_32 : decode cX5_read 32 = .ok (.getfield 10, 3) := by decide +kernel
theorem dX5_read_35 : decode cX5_read 35 = .ok (.iload_n 2, 1) := by decide +kernel
theorem dX5_read_36 : decode cX5_read 36 = .ok (.invokevirtual 90, 3) := by decide +kernel
theorem dX5_read_39 : decode cX5_read 39 = .ok (.ifCond .ne 10, 3) := by decide +kernel
theorem dX5_read_42 : decode cX5_read 42 = .ok (.aload_n 0, 1) := by decide +kernel
theorem dX5_read_43 : decode cX5_read 43 = .ok (.ldc 48, 2) := by decide +kernel
theorem dX5_read_45 : decode cX5_read 45 = .ok (.invokevirtual 49, 3) := by decide +kernel
theorem dX5_read_48 : decode cX5_read 48 = .ok (.ireturn, 1) := by decide +kernel
theorem dX5_read_49 : decode cX5_read 49 = .ok (.aload_n 3, 1) := by decide +kernel
theorem dX5_read_50 : decode cX5_read 50 = .ok (.getfield 228, 3) := by decide +kernel
theorem dX5_read_53 : decode cX5_read 53 = .ok (.bipush 8, 2) := by decide +kernel
theorem dX5_read_55 : decode cX5_read 55 = .ok (.if_icmp .le 10, 3) := by decide +kernel
theorem dX5_read_58 : decode cX5_read 58 = .ok (.aload_n 0, 1) := by decide +kernel
theorem dX5_read_59 : decode cX5_read 59 = .ok (.ldc 224, 2) := by decide +kernel
theorem dX5_read_61 : decode cX5_read 61 = .ok (.invokevirtual 49, 3) := by decide +kernel
theorem dX5_read_64 : decode cX5_read 64 = .ok (.ireturn, 1) := by decide +kernel
theorem dX5_read_65 : decode cX5_read 65 = .ok (.aload_n 3, 1) := by decide +kernel
theorem dX5_read_66 : decode cX5_read 66 = .ok (.getfield 228, 3) := by decide +kernel
theorem dX5_read_69 : decode cX5_read 69 = .ok (.ifCond .ne 7, 3) := by decide +kernel
theorem dX5_read_72 : decode cX5_read 72 = .ok (.sipush 3072, 3) := by decide +kernel
theorem dX5_read_75 : decode cX5_read 75 = .ok (.ireturn, 1) := by decide +kernel
theorem dX5_read_76 : decode cX5_read 76 = .ok (.aload_n 0, 1) := by decide +kernel
theorem dX5_read_77 : decode cX5_read 77 = .ok (.aload_n 3, 1) := by decide +kernel
theorem dX5_read_78 : decode cX5_read 78 = .ok (.iload_n 2, 1) := by decide +kernel
theorem dX5_read_79 : decode cX5_read 79 = .ok (.invokevirtual 257, 3) := by decide +kernel
theorem dX5_read_82 : decode cX5_read 82 = .ok (.ireturn, 1) := by decide +kernel
theorem dX5_image_0 : decode cX5_image 0 = .ok (.aload_n 0, 1) := by decide +kernel
theorem dX5_image_1 : decode cX5_image 1 = .ok (.getfield 19, 3) := by decide +kernel
theorem dX5_image_4 : decode cX5_image 4 = .ok (.aload_n 0, 1) := by decide +kernel
theorem dX5_image_5 : decode cX5_image 5 = .ok (.getfield 10, 3) := by decide +kernel
theorem dX5_image_8 : decode cX5_image 8 = .ok (.invokevirtual 213, 3) := by decide +kernel
theorem dX5_image_11 : decode cX5_image 11 = .ok (.aload_n 0, 1) := by decide +kernel
theorem dX5_image_12 : decode cX5_image 12 = .ok (.iconst 1, 1) := by decide +kernel
theorem dX5_image_13 : decode cX5_image 13 = .ok (.putfield 22, 3) := by decide +kernel
theorem dX5_image_16 : decode cX5_image 16 = .ok (.iconst 1, 1) := by decide +kernel
theorem dX5_image_17 : decode cX5_image 17 = .ok (.ireturn, 1) := by decide +kernel
theorem dX5_undo_0 : decode cX5_undo 0 = .ok (.aload_n 0, 1) := by decide +kernel
theorem dX5_undo_1 : decode cX5_undo 1 = .ok (.getfield 22, 3) := by decide +kernel
theorem dX5_undo_4 : decode cX5_undo 4 = .ok (.ifCond .ne 10, 3) := by decide +kernel
theorem dX5_undo_7 : decode cX5_undo 7 = .ok (.aload_n 0, 1) := by decide +kernel
theorem dX5_undo_8 : decode cX5_undo 8 = .ok (.ldc 171, 2) := by decide +kernel
theorem dX5_undo_10 : decode cX5_undo 10 = .ok (.invokevirtual 49, 3) := by decide +kernel
theorem dX5_undo_13 : decode cX5_undo 13 = .ok (.ireturn, 1) := by decide +kernel
theorem dX5_undo_14 : decode cX5_undo 14 = .ok (.aload_n 0, 1) := by decide +kernel
theorem dX5_undo_15 : decode cX5_undo 15 = .ok (.getfield 10, 3) := by decide +kernel
theorem dX5_undo_18 : decode cX5_undo 18 = .ok (.aload_n 0, 1) := by decide +kernel
theorem dX5_undo_19 : decode cX5_undo 19 = .ok (.getfield 19, 3) := by decide +kernel
theorem dX5_undo_22 : decode cX5_undo 22 = .ok (.invokevirtual 213, 3) := by decide +kernel
theorem dX5_undo_25 : decode cX5_undo 25 = .ok (.aload_n 0, 1) := by decide +kernel
theorem dX5_undo_26 : decode cX5_undo 26 = .ok (.getfield 10, 3) := by decide +kernel
theorem dX5_undo_29 : decode cX5_undo 29 = .ok (.getfield 195, 3) := by decide +kernel
theorem dX5_undo_32 : decode cX5_undo 32 = .ok (.ireturn, 1) := by decide +kernel
theorem dX5_tear_0 : decode cX5_tear 0 = .ok (.aload_n 0, 1) := by decide +kernel
theorem dX5_tear_1 : decode cX5_tear 1 = .ok (.getfield 22, 3) := by decide +kernel
theorem dX5_tear_4 : decode cX5_tear 4 = .ok (.ifCond .eq 7, 3) := by decide +kernel
theorem dX5_tear_7 : decode cX5_tear 7 = .ok (.iconst 1, 1) := by decide +kernel
theorem dX5_tear_8 : decode cX5_tear 8 = .ok (.goto 4, 3) := by decide +kernel
theorem dX5_tear_11 : decode cX5_tear 11 = .ok (.iconst 0, 1) := by decide +kernel
theorem dX5_tear_12 : decode cX5_tear 12 = .ok (.istore_n 1, 1) := by decide +kernel
theorem dX5_tear_13 : decode cX5_tear 13 = .ok (.aload_n 0, 1) := by decide +kernel
theorem dX5_tear_14 : decode cX5_tear 14 = .ok (.iconst 0, 1) := by decide +kernel
theorem dX5_tear_15 : decode cX5_tear 15 = .ok (.putfield 22, 3) := by decide +kernel
theorem dX5_tear_18 : decode cX5_tear 18 = .ok (.iload_n 1, 1) := by decide +kernel
theorem dX5_tear_19 : decode cX5_tear 19 = .ok (.ireturn, 1) := by decide +kernel
theorem dX5_count_0 : decode cX5_count 0 = .ok (.iload_n 1, 1) := by decide +kernel
theorem dX5_count_1 : decode cX5_count 1 = .ok (.tableswitch 64 0 3 #[31, 39, 47, 56], 31) := by decide +kernel
theorem dX5_count_32 : decode cX5_count 32 = .ok (.aload_n 0, 1) := by decide +kernel
theorem dX5_count_33 : decode cX5_count 33 = .ok (.getfield 10, 3) := by decide +kernel
theorem dX5_count_36 : decode cX5_count 36 = .ok (.getfield 195, 3) := by decide +kernel
theorem dX5_count_39 : decode cX5_count 39 = .ok (.ireturn, 1) := by decide +kernel
theorem dX5_count_40 : decode cX5_count 40 = .ok (.aload_n 0, 1) := by decide +kernel
theorem dX5_count_41 : decode cX5_count 41 = .ok (.getfield 29, 3) := by decide +kernel
theorem dX5_count_44 : decode cX5_count 44 = .ok (.getfield 201, 3) := by decide +kernel
theorem dX5_count_47 : decode cX5_count 47 = .ok (.ireturn, 1) := by decide +kernel
theorem dX5_count_48 : decode cX5_count 48 = .ok (.aload_n 0, 1) := by decide +kernel
theorem dX5_count_49 : decode cX5_count 49 = .ok (.getfield 10, 3) := by decide +kernel
theorem dX5_count_52 : decode cX5_count 52 = .ok (.iconst 1, 1) := by decide +kernel
theorem dX5_count_53 : decode cX5_count 53 = .ok (.invokevirtual 261, 3) := by decide +kernel
theorem dX5_count_56 : decode cX5_count 56 = .ok (.ireturn, 1) := by decide +kernel
theorem dX5_count_57 : decode cX5_count 57 = .ok (.aload_n 0, 1) := by decide +kernel
theorem dX5_count_58 : decode cX5_count 58 = .ok (.getfield 10, 3) := by decide +kernel
theorem dX5_count_61 : decode cX5_count 61 = .ok (.invokevirtual 264, 3) := by decide +kernel
theorem dX5_count_64 : decode cX5_count 64 = .ok (.ireturn, 1) := by decide +kernel
theorem dX5_count_65 : decode cX5_count 65 = .ok (.aload_n 0, 1) := by decide +kernel
theorem dX5_count_66 : decode cX5_count 66 = .ok (.ldc 48, 2) := by decide +kernel
theorem dX5_count_68 : decode cX5_count 68 = .ok (.invokevirtual 49, 3) := by decide +kernel
theorem dX5_count_71 : decode cX5_count 71 = .ok (.ireturn, 1) := by decide +kernel
theorem dX5_status_0 : decode cX5_status 0 = .ok (.iload_n 1, 1) := by decide +kernel
theorem dX5_status_1 : decode cX5_status 1 = .ok (.iconst (-1), 1) := by decide +kernel
theorem dX5_status_2 : decode cX5_status 2 = .ok (.if_icmp .ne 43, 3) := by decide +kernel
theorem dX5_status_5 : decode cX5_status 5 = .ok (.iconst 0, 1) := by decide +kernel
theorem dX5_status_6 : decode cX5_status 6 = .ok (.istore_n 2, 1) := by decide +kernel
theorem dX5_status_7 : decode cX5_status 7 = .ok (.aload_n 0, 1) := by decide +kernel
theorem dX5_status_8 : decode cX5_status 8 = .ok (.getfield 40, 3) := by decide +kernel
theorem dX5_status_11 : decode cX5_status 11 = .ok (.astore_n 3, 1) := by decide +kernel
theorem dX5_status_12 : decode cX5_status 12 = .ok (.aload_n 3, 1) := by decide +kernel
theorem dX5_status_13 : decode cX5_status 13 = .ok (.arraylength, 1) := by decide +kernel
theorem dX5_status_14 : decode cX5_status 14 = .ok (.istore 4, 2) := by decide +kernel
theorem dX5_status_16 : decode cX5_status 16 = .ok (.iconst 0, 1) := by decide +kernel
theorem dX5_status_17 : decode cX5_status 17 = .ok (.istore 5, 2) := by decide +kernel
theorem dX5_status_19 : decode cX5_status 19 = .ok (.iload 5, 2) := by decide +kernel
theorem dX5_status_21 : decode cX5_status 21 = .ok (.iload 4, 2) := by decide +kernel
theorem dX5_status_23 : decode cX5_status 23 = .ok (.if_icmp .ge 20, 3) := by decide +kernel
theorem dX5_status_26 : decode cX5_status 26 = .ok (.aload_n 3, 1) := by decide +kernel
theorem dX5_status_27 : decode cX5_status 27 = .ok (.iload 5, 2) := by decide +kernel
theorem dX5_status_29 : decode cX5_status 29 = .ok (.iaload, 1) := by decide +kernel
theorem dX5_status_30 : decode cX5_status 30 = .ok (.istore 6, 2) := by decide +kernel
theorem dX5_status_32 : decode cX5_status 32 = .ok (.iload_n 2, 1) := by decide +kernel
theorem dX5_status_33 : decode cX5_status 33 = .ok (.iload 6, 2) := by decide +kernel
theorem dX5_status_35 : decode cX5_status 35 = .ok (.iadd, 1) := by decide +kernel
theorem dX5_status_36 : decode cX5_status 36 = .ok (.istore_n 2, 1) := by decide +kernel
theorem dX5_status_37 : decode cX5_status 37 = .ok (.iinc 5 1, 3) := by decide +kernel
theorem dX5_status_40 : decode cX5_status 40 = .ok (.goto (-21), 3) := by decide +kernel
theorem dX5_status_43 : decode cX5_status 43 = .ok (.iload_n 2, 1) := by decide +kernel
theorem dX5_status_44 : decode cX5_status 44 = .ok (.ireturn, 1) := by decide +kernel
theorem dX5_status_45 : decode cX5_status 45 = .ok (.iload_n 1, 1) := by decide +kernel
theorem dX5_status_46 : decode cX5_status 46 = .ok (.iconst 0, 1) := by decide +kernel
theorem dX5_status_47 : decode cX5_status 47 = .ok (.bipush 6, 2) := by decide +kernel
theorem dX5_status_49 : decode cX5_status 49 = .ok (.invokestatic 44, 3) := by decide +kernel
theorem dX5_status_52 : decode cX5_status 52 = .ok (.ifCond .eq 12, 3) := by decide +kernel
theorem dX5_status_55 : decode cX5_status 55 = .ok (.aload_n 0, 1) := by decide +kernel
theorem dX5_status_56 : decode cX5_status 56 = .ok (.getfield 40, 3) := by decide +kernel
theorem dX5_status_59 : decode cX5_status 59 = .ok (.iload_n 1, 1) := by decide +kernel
theorem dX5_status_60 : decode cX5_status 60 = .ok (.iaload, 1) := by decide +kernel
theorem dX5_status_61 : decode cX5_status 61 = .ok (.goto 9, 3) := by decide +kernel
theorem dX5_status_64 : decode cX5_status 64 = .ok (.aload_n 0, 1) := by decide +kernel
theorem dX5_status_65 : decode cX5_status 65 = .ok (.ldc 48, 2) := by decide +kernel
theorem dX5_status_67 : decode cX5_status 67 = .ok (.invokevirtual 49, 3) := by decide +kernel
theorem dX5_status_70 : decode cX5_status 70 = .ok (.ireturn, 1) := by decide +kernel
theorem dX5_tell_0 : decode cX5_tell 0 = .ok (.ldc 48, 2) := by decide +kernel
theorem dX5_tell_2 : decode cX5_tell 2 = .ok (.iload_n 1, 1) := by decide +kernel
theorem dX5_tell_3 : decode cX5_tell 3 = .ok (.isub, 1) := by decide +kernel
theorem dX5_tell_4 : decode cX5_tell 4 = .ok (.istore_n 2, 1) := by decide +kernel
theorem dX5_tell_5 : decode cX5_tell 5 = .ok (.iload_n 2, 1) := by decide +kernel
theorem dX5_tell_6 : decode cX5_tell 6 = .ok (.iconst 0, 1) := by decide +kernel
theorem dX5_tell_7 : decode cX5_tell 7 = .ok (.bipush 6, 2) := by decide +kernel
theorem dX5_tell_9 : decode cX5_tell 9 = .ok (.invokestatic 44, 3) := by decide +kernel
theorem dX5_tell_12 : decode cX5_tell 12 = .ok (.ifCond .eq 13, 3) := by decide +kernel
theorem dX5_tell_15 : decode cX5_tell 15 = .ok (.aload_n 0, 1) := by decide +kernel
theorem dX5_tell_16 : decode cX5_tell 16 = .ok (.getfield 40, 3) := by decide +kernel
theorem dX5_tell_19 : decode cX5_tell 19 = .ok (.iload_n 2, 1) := by decide +kernel
theorem dX5_tell_20 : decode cX5_tell 20 = .ok (.dup2, 1) := by decide +kernel
theorem dX5_tell_21 : decode cX5_tell 21 = .ok (.iaload, 1) := by decide +kernel
theorem dX5_tell_22 : decode cX5_tell 22 = .ok (.iconst 1, 1) := by decide +kernel
theorem dX5_tell_23 : decode cX5_tell 23 = .ok (.iadd, 1) := by decide +kernel
theorem dX5_tell_24 : decode cX5_tell 24 = .ok (.iastore, 1) := by decide +kernel
theorem dX5_tell_25 : decode cX5_tell 25 = .ok (.iload_n 1, 1) := by decide +kernel
theorem dX5_tell_26 : decode cX5_tell 26 = .ok (.ireturn, 1) := by decide +kernel
theorem dX5_startTrial_0 : decode cX5_startTrial 0 = .ok (.aload_n 0, 1) := by decide +kernel
theorem dX5_startTrial_1 : decode cX5_startTrial 1 = .ok (.getfield 16, 3) := by decide +kernel
theorem dX5_startTrial_4 : decode cX5_startTrial 4 = .ok (.aload_n 0, 1) := by decide +kernel
theorem dX5_startTrial_5 : decode cX5_startTrial 5 = .ok (.getfield 10, 3) := by decide +kernel
theorem dX5_startTrial_8 : decode cX5_startTrial 8 = .ok (.invokevirtual 213, 3) := by decide +kernel
theorem dX5_startTrial_11 : decode cX5_startTrial 11 = .ok (.return_, 1) := by decide +kernel
theorem dX5_sheetAt_0 : decode cX5_sheetAt 0 = .ok (.iload_n 1, 1) := by decide +kernel
theorem dX5_sheetAt_1 : decode cX5_sheetAt 1 = .ok (.iconst 0, 1) := by decide +kernel
theorem dX5_sheetAt_2 : decode cX5_sheetAt 2 = .ok (.iconst 3, 1) := by decide +kernel
theorem dX5_sheetAt_3 : decode cX5_sheetAt 3 = .ok (.invokestatic 44, 3) := by decide +kernel
theorem dX5_sheetAt_6 : decode cX5_sheetAt 6 = .ok (.ifCond .eq 12, 3) := by decide +kernel
theorem dX5_sheetAt_9 : decode cX5_sheetAt 9 = .ok (.aload_n 0, 1) := by decide +kernel
theorem dX5_sheetAt_10 : decode cX5_sheetAt 10 = .ok (.getfield 35, 3) := by decide +kernel
theorem dX5_sheetAt_13 : decode cX5_sheetAt 13 = .ok (.iload_n 1, 1) := by decide +kernel
theorem dX5_sheetAt_14 : decode cX5_sheetAt 14 = .ok (.aaload, 1) := by decide +kernel
theorem dX5_sheetAt_15 : decode cX5_sheetAt 15 = .ok (.goto 4, 3) := by decide +kernel
theorem dX5_sheetAt_18 : decode cX5_sheetAt 18 = .ok (.aconst_null, 1) := by decide +kernel
theorem dX5_sheetAt_19 : decode cX5_sheetAt 19 = .ok (.areturn, 1) := by decide +kernel
theorem dX5_staysLit_0 : decode cX5_staysLit 0 = .ok (.aload_n 0, 1) := by decide +kernel
theorem dX5_staysLit_1 : decode cX5_staysLit 1 = .ok (.invokevirtual 165, 3) := by decide +kernel
theorem dX5_staysLit_4 : decode cX5_staysLit 4 = .ok (.aload_n 0, 1) := by decide +kernel
theorem dX5_staysLit_5 : decode cX5_staysLit 5 = .ok (.getfield 16, 3) := by decide +kernel
theorem dX5_staysLit_8 : decode cX5_staysLit 8 = .ok (.iload_n 1, 1) := by decide +kernel
theorem dX5_staysLit_9 : decode cX5_staysLit 9 = .ok (.putfield 150, 3) := by decide +kernel
theorem dX5_staysLit_12 : decode cX5_staysLit 12 = .ok (.aload_n 0, 1) := by decide +kernel
theorem dX5_staysLit_13 : decode cX5_staysLit 13 = .ok (.getfield 16, 3) := by decide +kernel
theorem dX5_staysLit_16 : decode cX5_staysLit 16 = .ok (.iload_n 2, 1) := by decide +kernel
theorem dX5_staysLit_17 : decode cX5_staysLit 17 = .ok (.invokevirtual 139, 3) := by decide +kernel
theorem dX5_staysLit_20 : decode cX5_staysLit 20 = .ok (.aload_n 0, 1) := by decide +kernel
theorem dX5_staysLit_21 : decode cX5_staysLit 21 = .ok (.getfield 16, 3) := by decide +kernel
theorem dX5_staysLit_24 : decode cX5_staysLit 24 = .ok (.getfield 159, 3) := by decide +kernel
theorem dX5_staysLit_27 : decode cX5_staysLit 27 = .ok (.aload_n 0, 1) := by decide +kernel
theorem dX5_staysLit_28 : decode cX5_staysLit 28 = .ok (.getfield 10, 3) := by decide +kernel
theorem dX5_staysLit_31 : decode cX5_staysLit 31 = .ok (.getfield 159, 3) := by decide +kernel
theorem dX5_staysLit_34 : decode cX5_staysLit 34 = .ok (.if_icmp .ne 7, 3) := by decide +kernel
theorem dX5_staysLit_37 : decode cX5_staysLit 37 = .ok (.iconst 1, 1) := by decide +kernel
theorem dX5_staysLit_38 : decode cX5_staysLit 38 = .ok (.goto 4, 3) := by decide +kernel
theorem dX5_staysLit_41 : decode cX5_staysLit 41 = .ok (.iconst 0, 1) := by decide +kernel
theorem dX5_staysLit_42 : decode cX5_staysLit 42 = .ok (.ireturn, 1) := by decide +kernel
theorem dX5_countKindsThatRead_0 : decode cX5_countKindsThatRead 0 = .ok (.aload_n 1, 1) := by decide +kernel
theorem dX5_countKindsThatRead_1 : decode cX5_countKindsThatRead 1 = .ok (.getfield 235, 3) := by decide +kernel
theorem dX5_countKindsThatRead_4 : decode cX5_countKindsThatRead 4 = .ok (.iconst 0, 1) := by decide +kernel
theorem dX5_countKindsThatRead_5 : decode cX5_countKindsThatRead 5 = .ok (.laload, 1) := by decide +kernel
theorem dX5_countKindsThatRead_6 : decode cX5_countKindsThatRead 6 = .ok (.lstore_n 3, 1) := by decide +kernel
theorem dX5_countKindsThatRead_7 : decode cX5_countKindsThatRead 7 = .ok (.lload_n 3, 1) := by decide +kernel
theorem dX5_countKindsThatRead_8 : decode cX5_countKindsThatRead 8 = .ok (.lconst 0, 1) := by decide +kernel
theorem dX5_countKindsThatRead_9 : decode cX5_countKindsThatRead 9 = .ok (.lcmp, 1) := by decide +kernel
theorem dX5_countKindsThatRead_10 : decode cX5_countKindsThatRead 10 = .ok (.ifCond .lt 11, 3) := by decide +kernel
theorem dX5_countKindsThatRead_13 : decode cX5_countKindsThatRead 13 = .ok (.lload_n 3, 1) := by decide +kernel
theorem dX5_countKindsThatRead_14 : decode cX5_countKindsThatRead 14 = .ok (.ldc2_w 267, 3) := by decide +kernel
theorem dX5_countKindsThatRead_17 : decode cX5_countKindsThatRead 17 = .ok (.lcmp, 1) := by decide +kernel
theorem dX5_countKindsThatRead_18 : decode cX5_countKindsThatRead 18 = .ok (.ifCond .le 5, 3) := by decide +kernel
theorem dX5_countKindsThatRead_21 : decode cX5_countKindsThatRead 21 = .ok (.iconst 0, 1) := by decide +kernel
theorem dX5_countKindsThatRead_22 : decode cX5_countKindsThatRead 22 = .ok (.ireturn, 1) := by decide +kernel
theorem dX5_countKindsThatRead_23 : decode cX5_countKindsThatRead 23 = .ok (.iconst 0, 1) := by decide +kernel
theorem dX5_countKindsThatRead_24 : decode cX5_countKindsThatRead 24 = .ok (.istore 5, 2) := by decide +kernel
theorem dX5_countKindsThatRead_26 : decode cX5_countKindsThatRead 26 = .ok (.iconst 0, 1) := by decide +kernel
theorem dX5_countKindsThatRead_27 : decode cX5_countKindsThatRead 27 = .ok (.istore 6, 2) := by decide +kernel
theorem dX5_countKindsThatRead_29 : decode cX5_countKindsThatRead 29 = .ok (.iload 6, 2) := by decide +kernel
theorem dX5_countKindsThatRead_31 : decode cX5_countKindsThatRead 31 = .ok (.bipush 6, 2) := by decide +kernel
theorem dX5_countKindsThatRead_33 : decode cX5_countKindsThatRead 33 = .ok (.if_icmp .ge 47, 3) := by decide +kernel
theorem dX5_countKindsThatRead_36 : decode cX5_countKindsThatRead 36 = .ok (.aload_n 0, 1) := by decide +kernel
theorem dX5_countKindsThatRead_37 : decode cX5_countKindsThatRead 37 = .ok (.invokevirtual 165, 3) := by decide +kernel
theorem dX5_countKindsThatRead_40 : decode cX5_countKindsThatRead 40 = .ok (.aload_n 0, 1) := by decide +kernel
theorem dX5_countKindsThatRead_41 : decode cX5_countKindsThatRead 41 = .ok (.getfield 16, 3) := by decide +kernel
theorem dX5_countKindsThatRead_44 : decode cX5_countKindsThatRead 44 = .ok (.getfield 93, 3) := by decide +kernel
theorem dX5_countKindsThatRead_47 : decode cX5_countKindsThatRead 47 = .ok (.iload_n 2, 1) := by decide +kernel
theorem dX5_countKindsThatRead_48 : decode cX5_countKindsThatRead 48 = .ok (.iload 6, 2) := by decide +kernel
theorem dX5_countKindsThatRead_50 : decode cX5_countKindsThatRead 50 = .ok (.iastore, 1) := by decide +kernel
theorem dX5_countKindsThatRead_51 : decode cX5_countKindsThatRead 51 = .ok (.aload_n 0, 1) := by decide +kernel
theorem dX5_countKindsThatRead_52 : decode cX5_countKindsThatRead 52 = .ok (.getfield 16, 3) := by decide +kernel
theorem dX5_countKindsThatRead_55 : decode cX5_countKindsThatRead 55 = .ok (.getfield 102, 3) := by decide +kernel
theorem dX5_countKindsThatRead_58 : decode cX5_countKindsThatRead 58 = .ok (.iload_n 2, 1) := by decide +kernel
theorem dX5_countKindsThatRead_59 : decode cX5_countKindsThatRead 59 = .ok (.lload_n 3, 1) := by decide +kernel
theorem dX5_countKindsThatRead_60 : decode cX5_countKindsThatRead 60 = .ok (.l2i, 1) := by decide +kernel
theorem dX5_countKindsThatRead_61 : decode cX5_countKindsThatRead 61 = .ok (.iastore, 1) := by decide +kernel
theorem dX5_countKindsThatRead_62 : decode cX5_countKindsThatRead 62 = .ok (.aload_n 0, 1) := by decide +kernel
theorem dX5_countKindsThatRead_63 : decode cX5_countKindsThatRead 63 = .ok (.aload_n 1, 1) := by decide +kernel
theorem dX5_countKindsThatRead_64 : decode cX5_countKindsThatRead 64 = .ok (.iload_n 2, 1) := by decide +kernel
theorem dX5_countKindsThatRead_65 : decode cX5_countKindsThatRead 65 = .ok (.invokevirtual 269, 3) := by decide +kernel
theorem dX5_countKindsThatRead_68 : decode cX5_countKindsThatRead 68 = .ok (.ifCond .eq 6, 3) := by decide +kernel
theorem dX5_countKindsThatRead_71 : decode cX5_countKindsThatRead 71 = .ok (.iinc 5 1, 3) := by decide +kernel
theorem dX5_countKindsThatRead_74 : decode cX5_countKindsThatRead 74 = .ok (.iinc 6 1, 3) := by decide +kernel
theorem dX5_countKindsThatRead_77 : decode cX5_countKindsThatRead 77 = .ok (.goto (-48), 3) := by decide +kernel
theorem dX5_countKindsThatRead_80 : decode cX5_countKindsThatRead 80 = .ok (.iload 5, 2) := by decide +kernel
theorem dX5_countKindsThatRead_82 : decode cX5_countKindsThatRead 82 = .ok (.ireturn, 1) := by decide +kernel
theorem dX5_trialReads_0 : decode cX5_trialReads 0 = .ok (.iconst 0, 1) := by decide +kernel
theorem dX5_trialReads_1 : decode cX5_trialReads 1 = .ok (.istore_n 3, 1) := by decide +kernel
theorem dX5_trialReads_2 : decode cX5_trialReads 2 = .ok (.iload_n 3, 1) := by decide +kernel
theorem dX5_trialReads_3 : decode cX5_trialReads 3 = .ok (.aload_n 1, 1) := by decide +kernel
theorem dX5_trialReads_4 : decode cX5_trialReads 4 = .ok (.getfield 228, 3) := by decide +kernel
theorem dX5_trialReads_7 : decode cX5_trialReads 7 = .ok (.if_icmp .ge 38, 3) := by decide +kernel
theorem dX5_trialReads_10 : decode cX5_trialReads 10 = .ok (.aload_n 0, 1) := by decide +kernel
theorem dX5_trialReads_11 : decode cX5_trialReads 11 = .ok (.getfield 16, 3) := by decide +kernel
theorem dX5_trialReads_14 : decode cX5_trialReads 14 = .ok (.getfield 102, 3) := by decide +kernel
theorem dX5_trialReads_17 : decode cX5_trialReads 17 = .ok (.iload_n 2, 1) := by decide +kernel
theorem dX5_trialReads_18 : decode cX5_trialReads 18 = .ok (.iaload, 1) := by decide +kernel
theorem dX5_trialReads_19 : decode cX5_trialReads 19 = .ok (.i2l, 1) := by decide +kernel
theorem dX5_trialReads_20 : decode cX5_trialReads 20 = .ok (.aload_n 1, 1) := by decide +kernel
theorem dX5_trialReads_21 : decode cX5_trialReads 21 = .ok (.getfield 235, 3) := by decide +kernel
theorem dX5_trialReads_24 : decode cX5_trialReads 24 = .ok (.iload_n 3, 1) := by decide +kernel
theorem dX5_trialReads_25 : decode cX5_trialReads 25 = .ok (.laload, 1) := by decide +kernel
theorem dX5_trialReads_26 : decode cX5_trialReads 26 = .ok (.lcmp, 1) := by decide +kernel
theorem dX5_trialReads_27 : decode cX5_trialReads 27 = .ok (.ifCond .eq 5, 3) := by decide +kernel
theorem dX5_trialReads_30 : decode cX5_trialReads 30 = .ok (.iconst 0, 1) := by decide +kernel
theorem dX5_trialReads_31 : decode cX5_trialReads 31 = .ok (.ireturn, 1) := by decide +kernel
theorem dX5_trialReads_32 : decode cX5_trialReads 32 = .ok (.aload_n 0, 1) := by decide +kernel
theorem dX5_trialReads_33 : decode cX5_trialReads 33 = .ok (.getfield 16, 3) := by decide +kernel
theorem dX5_trialReads_36 : decode cX5_trialReads 36 = .ok (.invokevirtual 172, 3) := by decide +kernel
theorem dX5_trialReads_39 : decode cX5_trialReads 39 = .ok (.iinc 3 1, 3) := by decide +kernel
theorem dX5_trialReads_42 : decode cX5_trialReads 42 = .ok (.goto (-40), 3) := by decide +kernel
theorem dX5_trialReads_45 : decode cX5_trialReads 45 = .ok (.iconst 1, 1) := by decide +kernel
theorem dX5_trialReads_46 : decode cX5_trialReads 46 = .ok (.ireturn, 1) := by decide +kernel
theorem dX5_within_0 : decode cX5_within 0 = .ok (.iload_n 0, 1) := by decide +kernel
theorem dX5_within_1 : decode cX5_within 1 = .ok (.iload_n 1, 1) := by decide +kernel
theorem dX5_within_2 : decode cX5_within 2 = .ok (.if_icmp .lt 12, 3) := by decide +kernel
theorem dX5_within_5 : decode cX5_within 5 = .ok (.iload_n 0, 1) := by decide +kernel
theorem dX5_within_6 : decode cX5_within 6 = .ok (.iload_n 2, 1) := by decide +kernel
theorem dX5_within_7 : decode cX5_within 7 = .ok (.if_icmp .gt 7, 3) := by decide +kernel
theorem dX5_within_10 : decode cX5_within 10 = .ok (.iconst 1, 1) := by decide +kernel
theorem dX5_within_11 : decode cX5_within 11 = .ok (.goto 4, 3) := by decide +kernel
theorem dX5_within_14 : decode cX5_within 14 = .ok (.iconst 0, 1) := by decide +kernel
theorem dX5_within_15 : decode cX5_within 15 = .ok (.ireturn, 1) := by decide +kernel
theorem dX5_isKind_0 : decode cX5_isKind 0 = .ok (.iload_n 0, 1) := by decide +kernel
theorem dX5_isKind_1 : decode cX5_isKind 1 = .ok (.iconst 0, 1) := by decide +kernel
theorem dX5_isKind_2 : decode cX5_isKind 2 = .ok (.iconst 5, 1) := by decide +kernel
theorem dX5_isKind_3 : decode cX5_isKind 3 = .ok (.invokestatic 44, 3) := by decide +kernel
theorem dX5_isKind_6 : decode cX5_isKind 6 = .ok (.ireturn, 1) := by decide +kernel
theorem dX5_isWord_0 : decode cX5_isWord 0 = .ok (.iload_n 0, 1) := by decide +kernel
theorem dX5_isWord_1 : decode cX5_isWord 1 = .ok (.iconst 0, 1) := by decide +kernel
theorem dX5_isWord_2 : decode cX5_isWord 2 = .ok (.bipush 8, 2) := by decide +kernel
theorem dX5_isWord_4 : decode cX5_isWord 4 = .ok (.invokestatic 44, 3) := by decide +kernel
theorem dX5_isWord_7 : decode cX5_isWord 7 = .ok (.ireturn, 1) := by decide +kernel
