theorem dX0_isOrIsUnder_0 : decode cX0_isOrIsUnder 0 = .ok (.iload_n 0, 1) := by decide +kernel
theorem dX0_isOrIsUnder_1 : decode cX0_isOrIsUnder 1 = .ok (.istore_n 2, 1) := by decide +kernel
theorem dX0_isOrIsUnder_2 : decode cX0_isOrIsUnder 2 = .ok (.iconst 0, 1) := by decide +kernel
theorem dX0_isOrIsUnder_3 : decode cX0_isOrIsUnder 3 = .ok (.istore_n 3, 1) := by decide +kernel
theorem dX0_isOrIsUnder_4 : decode cX0_isOrIsUnder 4 = .ok (.iload_n 3, 1) := by decide +kernel
theorem dX0_isOrIsUnder_5 : decode cX0_isOrIsUnder 5 = .ok (.bipush 6, 2) := by decide +kernel
theorem dX0_isOrIsUnder_7 : decode cX0_isOrIsUnder 7 = .ok (.if_icmp .ge 32, 3) := by decide +kernel
theorem dX0_isOrIsUnder_10 : decode cX0_isOrIsUnder 10 = .ok (.iload_n 2, 1) := by decide +kernel
theorem dX0_isOrIsUnder_11 : decode cX0_isOrIsUnder 11 = .ok (.ifCond .lt 28, 3) := by decide +kernel
theorem dX0_isOrIsUnder_14 : decode cX0_isOrIsUnder 14 = .ok (.iload_n 2, 1) := by decide +kernel
theorem dX0_isOrIsUnder_15 : decode cX0_isOrIsUnder 15 = .ok (.bipush 6, 2) := by decide +kernel
theorem dX0_isOrIsUnder_17 : decode cX0_isOrIsUnder 17 = .ok (.if_icmp .ge 22, 3) := by decide +kernel
theorem dX0_isOrIsUnder_20 : decode cX0_isOrIsUnder 20 = .ok (.iload_n 2, 1) := by decide +kernel
theorem dX0_isOrIsUnder_21 : decode cX0_isOrIsUnder 21 = .ok (.iload_n 1, 1) := by decide +kernel
theorem dX0_isOrIsUnder_22 : decode cX0_isOrIsUnder 22 = .ok (.if_icmp .ne 5, 3) := by decide +kernel
theorem dX0_isOrIsUnder_25 : decode cX0_isOrIsUnder 25 = .ok (.iconst 1, 1) := by decide +kernel
theorem dX0_isOrIsUnder_26 : decode cX0_isOrIsUnder 26 = .ok (.ireturn, 1) := by decide +kernel
theorem dX0_isOrIsUnder_27 : decode cX0_isOrIsUnder 27 = .ok (.getstatic 9, 3) := by decide +kernel
theorem dX0_isOrIsUnder_30 : decode cX0_isOrIsUnder 30 = .ok (.iload_n 2, 1) := by decide +kernel
theorem dX0_isOrIsUnder_31 : decode cX0_isOrIsUnder 31 = .ok (.iaload, 1) := by decide +kernel
theorem dX0_isOrIsUnder_32 : decode cX0_isOrIsUnder 32 = .ok (.istore_n 2, 1) := by decide +kernel
theorem dX0_isOrIsUnder_33 : decode cX0_isOrIsUnder 33 = .ok (.iinc 3 1, 3) := by decide +kernel
theorem dX0_isOrIsUnder_36 : decode cX0_isOrIsUnder 36 = .ok (.goto (-32), 3) := by decide +kernel
theorem dX0_isOrIsUnder_39 : decode cX0_isOrIsUnder 39 = .ok (.iconst 0, 1) := by decide +kernel
theorem dX0_isOrIsUnder_40 : decode cX0_isOrIsUnder 40 = .ok (.ireturn, 1) := by decide +kernel
theorem dX0_uses_0 : decode cX0_uses 0 = .ok (.iload_n 0, 1) := by decide +kernel
theorem dX0_uses_1 : decode cX0_uses 1 = .ok (.tableswitch 47 2 5 #[31, 33, 35, 45], 31) := by decide +kernel
theorem dX0_uses_32 : decode cX0_uses 32 = .ok (.iconst 1, 1) := by decide +kernel
theorem dX0_uses_33 : decode cX0_uses 33 = .ok (.ireturn, 1) := by decide +kernel
theorem dX0_uses_34 : decode cX0_uses 34 = .ok (.iconst 3, 1) := by decide +kernel
theorem dX0_uses_35 : decode cX0_uses 35 = .ok (.ireturn, 1) := by decide +kernel
theorem dX0_uses_36 : decode cX0_uses 36 = .ok (.iload_n 1, 1) := by decide +kernel
theorem dX0_uses_37 : decode cX0_uses 37 = .ok (.ifCond .eq 7, 3) := by decide +kernel
theorem dX0_uses_40 : decode cX0_uses 40 = .ok (.iconst 1, 1) := by decide +kernel
theorem dX0_uses_41 : decode cX0_uses 41 = .ok (.goto 4, 3) := by decide +kernel
theorem dX0_uses_44 : decode cX0_uses 44 = .ok (.iconst 2, 1) := by decide +kernel
theorem dX0_uses_45 : decode cX0_uses 45 = .ok (.ireturn, 1) := by decide +kernel
theorem dX0_uses_46 : decode cX0_uses 46 = .ok (.iconst 2, 1) := by decide +kernel
theorem dX0_uses_47 : decode cX0_uses 47 = .ok (.ireturn, 1) := by decide +kernel
theorem dX0_uses_48 : decode cX0_uses 48 = .ok (.iconst 2, 1) := by decide +kernel
theorem dX0_uses_49 : decode cX0_uses 49 = .ok (.ireturn, 1) := by decide +kernel
theorem dX0_brings_0 : decode cX0_brings 0 = .ok (.iload_n 0, 1) := by decide +kernel
theorem dX0_brings_1 : decode cX0_brings 1 = .ok (.tableswitch 56 2 5 #[31, 38, 56, 46], 31) := by decide +kernel
theorem dX0_brings_32 : decode cX0_brings 32 = .ok (.bipush 10, 2) := by decide +kernel
theorem dX0_brings_34 : decode cX0_brings 34 = .ok (.iload_n 1, 1) := by decide +kernel
theorem dX0_brings_35 : decode cX0_brings 35 = .ok (.imul, 1) := by decide +kernel
theorem dX0_brings_36 : decode cX0_brings 36 = .ok (.iconst 2, 1) := by decide +kernel
theorem dX0_brings_37 : decode cX0_brings 37 = .ok (.idiv, 1) := by decide +kernel
theorem dX0_brings_38 : decode cX0_brings 38 = .ok (.ireturn, 1) := by decide +kernel
theorem dX0_brings_39 : decode cX0_brings 39 = .ok (.bipush 10, 2) := by decide +kernel
theorem dX0_brings_41 : decode cX0_brings 41 = .ok (.iload_n 1, 1) := by decide +kernel
theorem dX0_brings_42 : decode cX0_brings 42 = .ok (.imul, 1) := by decide +kernel
theorem dX0_brings_43 : decode cX0_brings 43 = .ok (.bipush 7, 2) := by decide +kernel
theorem dX0_brings_45 : decode cX0_brings 45 = .ok (.iadd, 1) := by decide +kernel
theorem dX0_brings_46 : decode cX0_brings 46 = .ok (.ireturn, 1) := by decide +kernel
theorem dX0_brings_47 : decode cX0_brings 47 = .ok (.bipush 10, 2) := by decide +kernel
theorem dX0_brings_49 : decode cX0_brings 49 = .ok (.iload_n 1, 1) := by decide +kernel
theorem dX0_brings_50 : decode cX0_brings 50 = .ok (.imul, 1) := by decide +kernel
theorem dX0_brings_51 : decode cX0_brings 51 = .ok (.iconst 2, 1) := by decide +kernel
theorem dX0_brings_52 : decode cX0_brings 52 = .ok (.idiv, 1) := by decide +kernel
theorem dX0_brings_53 : decode cX0_brings 53 = .ok (.bipush 20, 2) := by decide +kernel
theorem dX0_brings_55 : decode cX0_brings 55 = .ok (.iadd, 1) := by decide +kernel
theorem dX0_brings_56 : decode cX0_brings 56 = .ok (.ireturn, 1) := by decide +kernel
theorem dX0_brings_57 : decode cX0_brings 57 = .ok (.bipush 10, 2) := by decide +kernel
theorem dX0_brings_59 : decode cX0_brings 59 = .ok (.iload_n 1, 1) := by decide +kernel
theorem dX0_brings_60 : decode cX0_brings 60 = .ok (.imul, 1) := by decide +kernel
theorem dX0_brings_61 : decode cX0_brings 61 = .ok (.ireturn, 1) := by decide +kernel
theorem dX0_tells_0 : decode cX0_tells 0 = .ok (.iload_n 0, 1) := by decide +kernel
theorem dX0_tells_1 : decode cX0_tells 1 = .ok (.tableswitch 57 1 5 #[35, 39, 41, 45, 51], 35) := by decide +kernel
theorem dX0_tells_36 : decode cX0_tells 36 = .ok (.iconst 2, 1) := by decide +kernel
theorem dX0_tells_37 : decode cX0_tells 37 = .ok (.iload_n 1, 1) := by decide +kernel
theorem dX0_tells_38 : decode cX0_tells 38 = .ok (.imul, 1) := by decide +kernel
theorem dX0_tells_39 : decode cX0_tells 39 = .ok (.ireturn, 1) := by decide +kernel
theorem dX0_tells_40 : decode cX0_tells 40 = .ok (.iconst 1, 1) := by decide +kernel
theorem dX0_tells_41 : decode cX0_tells 41 = .ok (.ireturn, 1) := by decide +kernel
theorem dX0_tells_42 : decode cX0_tells 42 = .ok (.iload_n 1, 1) := by decide +kernel
theorem dX0_tells_43 : decode cX0_tells 43 = .ok (.iconst 1, 1) := by decide +kernel
theorem dX0_tells_44 : decode cX0_tells 44 = .ok (.isub, 1) := by decide +kernel
theorem dX0_tells_45 : decode cX0_tells 45 = .ok (.ireturn, 1) := by decide +kernel
theorem dX0_tells_46 : decode cX0_tells 46 = .ok (.iconst 2, 1) := by decide +kernel
theorem dX0_tells_47 : decode cX0_tells 47 = .ok (.iload_n 1, 1) := by decide +kernel
theorem dX0_tells_48 : decode cX0_tells 48 = .ok (.imul, 1) := by decide +kernel
theorem dX0_tells_49 : decode cX0_tells 49 = .ok (.iconst 1, 1) := by decide +kernel
theorem dX0_tells_50 : decode cX0_tells 50 = .ok (.iadd, 1) := by decide +kernel
theorem dX0_tells_51 : decode cX0_tells 51 = .ok (.ireturn, 1) := by decide +kernel
theorem dX0_tells_52 : decode cX0_tells 52 = .ok (.iconst 1, 1) := by decide +kernel
theorem dX0_tells_53 : decode cX0_tells 53 = .ok (.iload_n 1, 1) := by decide +kernel
theorem dX0_tells_54 : decode cX0_tells 54 = .ok (.iconst 3, 1) := by decide +kernel
theorem dX0_tells_55 : decode cX0_tells 55 = .ok (.idiv, 1) := by decide +kernel
theorem dX0_tells_56 : decode cX0_tells 56 = .ok (.iadd, 1) := by decide +kernel
theorem dX0_tells_57 : decode cX0_tells 57 = .ok (.ireturn, 1) := by decide +kernel
theorem dX0_tells_58 : decode cX0_tells 58 = .ok (.iload_n 1, 1) := by decide +kernel
theorem dX0_tells_59 : decode cX0_tells 59 = .ok (.ireturn, 1) := by decide +kernel
