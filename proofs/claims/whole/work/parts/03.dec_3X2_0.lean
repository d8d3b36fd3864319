theorem dX2_init_0 : decode cX2_init 0 = .ok (.aload_n 0, 1) := by decide +kernel
theorem dX2_init_1 : decode cX2_init 1 = .ok (.invokespecial 3, 3) := by decide +kernel
theorem dX2_init_4 : decode cX2_init 4 = .ok (.aload_n 0, 1) := by decide +kernel
theorem dX2_init_5 : decode cX2_init 5 = .ok (.bipush 40, 2) := by decide +kernel
theorem dX2_init_7 : decode cX2_init 7 = .ok (.newarray .long, 2) := by decide +kernel
theorem dX2_init_9 : decode cX2_init 9 = .ok (.putfield 9, 3) := by decide +kernel
theorem dX2_init_12 : decode cX2_init 12 = .ok (.aload_n 0, 1) := by decide +kernel
theorem dX2_init_13 : decode cX2_init 13 = .ok (.iconst 0, 1) := by decide +kernel
theorem dX2_init_14 : decode cX2_init 14 = .ok (.putfield 15, 3) := by decide +kernel
theorem dX2_init_17 : decode cX2_init 17 = .ok (.aload_n 0, 1) := by decide +kernel
theorem dX2_init_18 : decode cX2_init 18 = .ok (.iconst 0, 1) := by decide +kernel
theorem dX2_init_19 : decode cX2_init 19 = .ok (.putfield 19, 3) := by decide +kernel
theorem dX2_init_22 : decode cX2_init 22 = .ok (.return_, 1) := by decide +kernel
theorem dX2_isWidth_0 : decode cX2_isWidth 0 = .ok (.iload_n 0, 1) := by decide +kernel
theorem dX2_isWidth_1 : decode cX2_isWidth 1 = .ok (.ifCond .eq 21, 3) := by decide +kernel
theorem dX2_isWidth_4 : decode cX2_isWidth 4 = .ok (.iload_n 0, 1) := by decide +kernel
theorem dX2_isWidth_5 : decode cX2_isWidth 5 = .ok (.bipush 8, 2) := by decide +kernel
theorem dX2_isWidth_7 : decode cX2_isWidth 7 = .ok (.if_icmp .eq 15, 3) := by decide +kernel
theorem dX2_isWidth_10 : decode cX2_isWidth 10 = .ok (.iload_n 0, 1) := by decide +kernel
theorem dX2_isWidth_11 : decode cX2_isWidth 11 = .ok (.bipush 16, 2) := by decide +kernel
theorem dX2_isWidth_13 : decode cX2_isWidth 13 = .ok (.if_icmp .eq 9, 3) := by decide +kernel
theorem dX2_isWidth_16 : decode cX2_isWidth 16 = .ok (.iload_n 0, 1) := by decide +kernel
theorem dX2_isWidth_17 : decode cX2_isWidth 17 = .ok (.bipush 64, 2) := by decide +kernel
theorem dX2_isWidth_19 : decode cX2_isWidth 19 = .ok (.if_icmp .ne 7, 3) := by decide +kernel
theorem dX2_isWidth_22 : decode cX2_isWidth 22 = .ok (.iconst 1, 1) := by decide +kernel
theorem dX2_isWidth_23 : decode cX2_isWidth 23 = .ok (.goto 4, 3) := by decide +kernel
theorem dX2_isWidth_26 : decode cX2_isWidth 26 = .ok (.iconst 0, 1) := by decide +kernel
theorem dX2_isWidth_27 : decode cX2_isWidth 27 = .ok (.ireturn, 1) := by decide +kernel
theorem dX2_isMissing_0 : decode cX2_isMissing 0 = .ok (.aload_n 0, 1) := by decide +kernel
theorem dX2_isMissing_1 : decode cX2_isMissing 1 = .ok (.getfield 15, 3) := by decide +kernel
theorem dX2_isMissing_4 : decode cX2_isMissing 4 = .ok (.ifCond .ne 7, 3) := by decide +kernel
theorem dX2_isMissing_7 : decode cX2_isMissing 7 = .ok (.iconst 1, 1) := by decide +kernel
theorem dX2_isMissing_8 : decode cX2_isMissing 8 = .ok (.goto 4, 3) := by decide +kernel
theorem dX2_isMissing_11 : decode cX2_isMissing 11 = .ok (.iconst 0, 1) := by decide +kernel
theorem dX2_isMissing_12 : decode cX2_isMissing 12 = .ok (.ireturn, 1) := by decide +kernel
theorem dX2_layOut_0 : decode cX2_layOut 0 = .ok (.aload_n 0, 1) := by decide +kernel
theorem dX2_layOut_1 : decode cX2_layOut 1 = .ok (.getfield 9, 3) := by decide +kernel
theorem dX2_layOut_4 : decode cX2_layOut 4 = .ok (.lconst 0, 1) := by decide +kernel
theorem dX2_layOut_5 : decode cX2_layOut 5 = .ok (.invokestatic 22, 3) := by decide +kernel
theorem dX2_layOut_8 : decode cX2_layOut 8 = .ok (.aload_n 0, 1) := by decide +kernel
theorem dX2_layOut_9 : decode cX2_layOut 9 = .ok (.iload_n 1, 1) := by decide +kernel
theorem dX2_layOut_10 : decode cX2_layOut 10 = .ok (.putfield 15, 3) := by decide +kernel
theorem dX2_layOut_13 : decode cX2_layOut 13 = .ok (.aload_n 0, 1) := by decide +kernel
theorem dX2_layOut_14 : decode cX2_layOut 14 = .ok (.iload_n 1, 1) := by decide +kernel
theorem dX2_layOut_15 : decode cX2_layOut 15 = .ok (.ifCond .ne 7, 3) := by decide +kernel
theorem dX2_layOut_18 : decode cX2_layOut 18 = .ok (.iconst 0, 1) := by decide +kernel
theorem dX2_layOut_19 : decode cX2_layOut 19 = .ok (.goto 4, 3) := by decide +kernel
theorem dX2_layOut_22 : decode cX2_layOut 22 = .ok (.iload_n 2, 1) := by decide +kernel
theorem dX2_layOut_23 : decode cX2_layOut 23 = .ok (.putfield 19, 3) := by decide +kernel
theorem dX2_layOut_26 : decode cX2_layOut 26 = .ok (.return_, 1) := by decide +kernel
theorem dX2_put_0 : decode cX2_put 0 = .ok (.iload_n 1, 1) := by decide +kernel
theorem dX2_put_1 : decode cX2_put 1 = .ok (.iconst 0, 1) := by decide +kernel
theorem dX2_put_2 : decode cX2_put 2 = .ok (.aload_n 0, 1) := by decide +kernel
theorem dX2_put_3 : decode cX2_put 3 = .ok (.getfield 19, 3) := by decide +kernel
theorem dX2_put_6 : decode cX2_put 6 = .ok (.iconst 1, 1) := by decide +kernel
theorem dX2_put_7 : decode cX2_put 7 = .ok (.isub, 1) := by decide +kernel
theorem dX2_put_8 : decode cX2_put 8 = .ok (.invokestatic 28, 3) := by decide +kernel
theorem dX2_put_11 : decode cX2_put 11 = .ok (.ifCond .ne 4, 3) := by decide +kernel
theorem dX2_put_14 : decode cX2_put 14 = .ok (.return_, 1) := by decide +kernel
theorem dX2_put_15 : decode cX2_put 15 = .ok (.aload_n 0, 1) := by decide +kernel
theorem dX2_put_16 : decode cX2_put 16 = .ok (.getfield 15, 3) := by decide +kernel
theorem dX2_put_19 : decode cX2_put 19 = .ok (.lookupswitch 51 #[(8, 25), (16, 38)], 25) := by decide +kernel
theorem dX2_put_44 : decode cX2_put 44 = .ok (.aload_n 0, 1) := by decide +kernel
theorem dX2_put_45 : decode cX2_put 45 = .ok (.getfield 9, 3) := by decide +kernel
theorem dX2_put_48 : decode cX2_put 48 = .ok (.iload_n 1, 1) := by decide +kernel
theorem dX2_put_49 : decode cX2_put 49 = .ok (.lload_n 2, 1) := by decide +kernel
theorem dX2_put_50 : decode cX2_put 50 = .ok (.l2i, 1) := by decide +kernel
theorem dX2_put_51 : decode cX2_put 51 = .ok (.i2b, 1) := by decide +kernel
theorem dX2_put_52 : decode cX2_put 52 = .ok (.i2l, 1) := by decide +kernel
theorem dX2_put_53 : decode cX2_put 53 = .ok (.lastore, 1) := by decide +kernel
theorem dX2_put_54 : decode cX2_put 54 = .ok (.goto 23, 3) := by decide +kernel
theorem dX2_put_57 : decode cX2_put 57 = .ok (.aload_n 0, 1) := by decide +kernel
theorem dX2_put_58 : decode cX2_put 58 = .ok (.getfield 9, 3) := by decide +kernel
theorem dX2_put_61 : decode cX2_put 61 = .ok (.iload_n 1, 1) := by decide +kernel
theorem dX2_put_62 : decode cX2_put 62 = .ok (.lload_n 2, 1) := by decide +kernel
theorem dX2_put_63 : decode cX2_put 63 = .ok (.l2i, 1) := by decide +kernel
theorem dX2_put_64 : decode cX2_put 64 = .ok (.i2s, 1) := by decide +kernel
theorem dX2_put_65 : decode cX2_put 65 = .ok (.i2l, 1) := by decide +kernel
theorem dX2_put_66 : decode cX2_put 66 = .ok (.lastore, 1) := by decide +kernel
theorem dX2_put_67 : decode cX2_put 67 = .ok (.goto 10, 3) := by decide +kernel
theorem dX2_put_70 : decode cX2_put 70 = .ok (.aload_n 0, 1) := by decide +kernel
theorem dX2_put_71 : decode cX2_put 71 = .ok (.getfield 9, 3) := by decide +kernel
theorem dX2_put_74 : decode cX2_put 74 = .ok (.iload_n 1, 1) := by decide +kernel
theorem dX2_put_75 : decode cX2_put 75 = .ok (.lload_n 2, 1) := by decide +kernel
theorem dX2_put_76 : decode cX2_put 76 = .ok (.lastore, 1) := by decide +kernel
theorem dX2_put_77 : decode cX2_put 77 = .ok (.return_, 1) := by decide +kernel
theorem dX2_hasRange_0 : decode cX2_hasRange 0 = .ok (.iload_n 1, 1) := by decide +kernel
theorem dX2_hasRange_1 : decode cX2_hasRange 1 = .ok (.ifCond .lt 21, 3) := by decide +kernel
theorem dX2_hasRange_4 : decode cX2_hasRange 4 = .ok (.iload_n 2, 1) := by decide +kernel
theorem dX2_hasRange_5 : decode cX2_hasRange 5 = .ok (.ifCond .lt 17, 3) := by decide +kernel
theorem dX2_hasRange_8 : decode cX2_hasRange 8 = .ok (.iload_n 2, 1) := by decide +kernel
theorem dX2_hasRange_9 : decode cX2_hasRange 9 = .ok (.aload_n 0, 1) := by decide +kernel
theorem dX2_hasRange_10 : decode cX2_hasRange 10 = .ok (.getfield 19, 3) := by decide +kernel
theorem dX2_hasRange_13 : decode cX2_hasRange 13 = .ok (.iload_n 1, 1) := by decide +kernel
theorem dX2_hasRange_14 : decode cX2_hasRange 14 = .ok (.isub, 1) := by decide +kernel
theorem dX2_hasRange_15 : decode cX2_hasRange 15 = .ok (.if_icmp .gt 7, 3) := by decide +kernel
theorem dX2_hasRange_18 : decode cX2_hasRange 18 = .ok (.iconst 1, 1) := by decide +kernel
theorem dX2_hasRange_19 : decode cX2_hasRange 19 = .ok (.goto 4, 3) := by decide +kernel
theorem dX2_hasRange_22 : decode cX2_hasRange 22 = .ok (.iconst 0, 1) := by decide +kernel
theorem dX2_hasRange_23 : decode cX2_hasRange 23 = .ok (.ireturn, 1) := by decide +kernel
