section LB
variable {p : Program} {l : Launch} {e : Env} {s : State} {m : MethodId} {below : List Frame} {meth : Method} {c : Code} {b L : Nat} {xs : Nat → Int32} {g : Gl} {i : Nat} {ax am : Nat → Nat}
set_option maxHeartbeats 4000000 in
set_option maxRecDepth 100000 in
theorem lc_wipe (hc : Lc p s m meth c b L xs g) (hi : i + 6 ≤ L) (kk : Kk p l e s m below meth c b g ax am i 1312) : Kk p l e s m below meth c b g ax am i 942 := by
  intro R1 R2 R3 K T SN SZ F G J h H locs ls hH hl
  obtain ⟨C, hE, hX, hbl, hL⟩ := id hc
  obtain ⟨hx, hb, hml, hown, hT, hr, hlk⟩ := id C
  have hA : ∀ q : Nat, s.heap.size ≤ q → aH s q := fun _ q => q
  obtain ⟨r, T', G', q1, q2, h'⟩ := e_wipe h 
  refine lv_aload_n hx hb dL_law_942 rfl (lv_at hl 1 rfl) ?_
  refine aftI (runV C hE hA hH [0, 1, 2, 3, 4, 5, 6, 7, 8, 9, 10, 11, 12, 13, 14, 15, 16, 17, 18, 19, 20, 21, 22, 23, 24, 25, 26, 27, 28, 29, 30, 31, 32, 33] nd_34 (sC_XM_X g ax am R1 R2 R3 K T SN SZ F G J) (kX5_wipe l g ax _ R1 R2 R3 K T SN SZ F  r T' q1) tw_26_9 tw_26_10 tw_26_11 tw_1_2 tw_26_12 hdX5_wipe 0 rfl rfl rfl rfl ⟨Nat.le_of_ble_eq_true rfl, Nat.le_of_ble_eq_true rfl⟩ rfl hl.1 (rest := []) rfl (Nat.le_of_ble_eq_true rfl) dL_law_943 ⟨Nat.le_of_ble_eq_true rfl, Nat.le_of_ble_eq_true rfl⟩) hA hH [0, 1, 2, 3, 4, 5, 6, 7, 8, 9, 10, 11, 12, 13, 14, 15, 16, 17, 18, 19, 20, 21, 22, 23, 24, 25, 26, 27, 28, 29, 30, 31, 32, 33] [34, 35, 36, 37, 38, 39, 40, 41, 42, 43, 44, 45] (sC_XM_X g ax am R1 R2 R3 K T SN SZ F G J) (sR_XM_X g ax am R1 R2 R3 K T SN SZ F G J) nd_12 dj_XM_X [12, 13, 14, 15, 16, 17, 18, 19, 20, 21, 22, 23, 24, 25, 26, 27, 28, 29, 30, 31, 32, 33, 34, 35, 36, 37, 38, 39, 40, 41, 42, 43, 44, 45, 0, 1, 2, 3, 4, 5, 6, 7, 8, 9, 10, 11] nd_46p (sP_XM_X g ax am R1 R2 R3 K T SN SZ F G J R1 R2 R3 K T' SN SZ F) (fun H locs hH => ?_)
  refine lv_aload_n hx hb dL_law_946 rfl (lv_at hl 2 rfl) ?_
  refine aftI (runV C hE hA hH [34, 35, 36, 37, 38, 39, 40, 41, 42, 43, 44, 45] nd_12 (sC_XM_M g ax am R1 R2 R3 K T' SN SZ F G J) (kX6_wipe l g am _ G J  r G' q2) tw_26_13 tw_26_14 tw_26_15 tw_1_5 tw_26_16 hdX6_wipe 34 rfl rfl rfl rfl ⟨Nat.le_of_ble_eq_true rfl, Nat.le_of_ble_eq_true rfl⟩ rfl hl.1 (rest := [.int r]) rfl (Nat.le_of_ble_eq_true rfl) dL_law_947 ⟨Nat.le_of_ble_eq_true rfl, Nat.le_of_ble_eq_true rfl⟩) hA hH [34, 35, 36, 37, 38, 39, 40, 41, 42, 43, 44, 45] [0, 1, 2, 3, 4, 5, 6, 7, 8, 9, 10, 11, 12, 13, 14, 15, 16, 17, 18, 19, 20, 21, 22, 23, 24, 25, 26, 27, 28, 29, 30, 31, 32, 33] (sC_XM_M g ax am R1 R2 R3 K T' SN SZ F G J) (sR_XM_M g ax am R1 R2 R3 K T' SN SZ F G J) nd_34 dj_XM_M [0, 1, 2, 3, 4, 5, 6, 7, 8, 9, 10, 11, 12, 13, 14, 15, 16, 17, 18, 19, 20, 21, 22, 23, 24, 25, 26, 27, 28, 29, 30, 31, 32, 33, 34, 35, 36, 37, 38, 39, 40, 41, 42, 43, 44, 45] nd_46 (sP_XM_M g ax am R1 R2 R3 K T' SN SZ F G J G' J) (fun H locs hH => ?_)
  refine lv_icmp_eq (tgt := 1312) hx hb dL_law_950 (by decide) (fun _ => ?_) (fun c9 => absurd rfl c9)
  exact kk _ _ _ _ _ _ _ _ _ _ h' _ _ ls hH hl
set_option maxHeartbeats 4000000 in
set_option maxRecDepth 100000 in
theorem lc_text (hc : Lc p s m meth c b L xs g) (hi : i + 6 ≤ L) (kk : Kk p l e s m below meth c b g ax am i 1312) : Kk p l e s m below meth c b g ax am i 955 := by
  intro R1 R2 R3 K T SN SZ F G J h H locs ls hH hl
  obtain ⟨C, hE, hX, hbl, hL⟩ := id hc
  obtain ⟨hx, hb, hml, hown, hT, hr, hlk⟩ := id C
  have hA : ∀ q : Nat, s.heap.size ≤ q → aH s q := fun _ q => q
  obtain ⟨r, R1', R2', T', G', J', q1, q2, h'⟩ := e_text h 
  refine lv_aload_n hx hb dL_law_955 rfl (lv_at hl 1 rfl) ?_
  refine aftI (runV C hE hA hH [0, 1, 2, 3, 4, 5, 6, 7, 8, 9, 10, 11, 12, 13, 14, 15, 16, 17, 18, 19, 20, 21, 22, 23, 24, 25, 26, 27, 28, 29, 30, 31, 32, 33] nd_34 (sC_XM_X g ax am R1 R2 R3 K T SN SZ F G J) (kX5_text l g ax _ R1 R2 R3 K T SN SZ F  r R1' R2' T' q1) tw_26_17 tw_26_18 tw_26_19 tw_1_2 tw_26_20 hdX5_text 0 rfl rfl rfl rfl ⟨Nat.le_of_ble_eq_true rfl, Nat.le_of_ble_eq_true rfl⟩ rfl hl.1 (rest := []) rfl (Nat.le_of_ble_eq_true rfl) dL_law_956 ⟨Nat.le_of_ble_eq_true rfl, Nat.le_of_ble_eq_true rfl⟩) hA hH [0, 1, 2, 3, 4, 5, 6, 7, 8, 9, 10, 11, 12, 13, 14, 15, 16, 17, 18, 19, 20, 21, 22, 23, 24, 25, 26, 27, 28, 29, 30, 31, 32, 33] [34, 35, 36, 37, 38, 39, 40, 41, 42, 43, 44, 45] (sC_XM_X g ax am R1 R2 R3 K T SN SZ F G J) (sR_XM_X g ax am R1 R2 R3 K T SN SZ F G J) nd_12 dj_XM_X [12, 13, 14, 15, 16, 17, 18, 19, 20, 21, 22, 23, 24, 25, 26, 27, 28, 29, 30, 31, 32, 33, 34, 35, 36, 37, 38, 39, 40, 41, 42, 43, 44, 45, 0, 1, 2, 3, 4, 5, 6, 7, 8, 9, 10, 11] nd_46p (sP_XM_X g ax am R1 R2 R3 K T SN SZ F G J R1' R2' R3 K T' SN SZ F) (fun H locs hH => ?_)
  refine lv_aload_n hx hb dL_law_959 rfl (lv_at hl 2 rfl) ?_
  refine aftI (runV C hE hA hH [34, 35, 36, 37, 38, 39, 40, 41, 42, 43, 44, 45] nd_12 (sC_XM_M g ax am R1' R2' R3 K T' SN SZ F G J) (kX6_text l g am _ G J  r G' J' q2) tw_31_5 tw_31_6 tw_31_7 tw_1_5 tw_31_8 hdX6_text 34 rfl rfl rfl rfl ⟨Nat.le_of_ble_eq_true rfl, Nat.le_of_ble_eq_true rfl⟩ rfl hl.1 (rest := [.int r]) rfl (Nat.le_of_ble_eq_true rfl) dL_law_960 ⟨Nat.le_of_ble_eq_true rfl, Nat.le_of_ble_eq_true rfl⟩) hA hH [34, 35, 36, 37, 38, 39, 40, 41, 42, 43, 44, 45] [0, 1, 2, 3, 4, 5, 6, 7, 8, 9, 10, 11, 12, 13, 14, 15, 16, 17, 18, 19, 20, 21, 22, 23, 24, 25, 26, 27, 28, 29, 30, 31, 32, 33] (sC_XM_M g ax am R1' R2' R3 K T' SN SZ F G J) (sR_XM_M g ax am R1' R2' R3 K T' SN SZ F G J) nd_34 dj_XM_M [0, 1, 2, 3, 4, 5, 6, 7, 8, 9, 10, 11, 12, 13, 14, 15, 16, 17, 18, 19, 20, 21, 22, 23, 24, 25, 26, 27, 28, 29, 30, 31, 32, 33, 34, 35, 36, 37, 38, 39, 40, 41, 42, 43, 44, 45] nd_46 (sP_XM_M g ax am R1' R2' R3 K T' SN SZ F G J G' J') (fun H locs hH => ?_)
  refine lv_icmp_eq (tgt := 1312) hx hb dL_law_963 (by decide) (fun _ => ?_) (fun c9 => absurd rfl c9)
  exact kk _ _ _ _ _ _ _ _ _ _ h' _ _ ls hH hl
set_option maxHeartbeats 4000000 in
set_option maxRecDepth 100000 in
theorem lc_sheet (hc : Lc p s m meth c b L xs g) (hi : i + 6 ≤ L) (kk : Kk p l e s m below meth c b g ax am i 1312) : Kk p l e s m below meth c b g ax am i 968 := by
  intro R1 R2 R3 K T SN SZ F G J h H locs ls hH hl
  obtain ⟨C, hE, hX, hbl, hL⟩ := id hc
  obtain ⟨hx, hb, hml, hown, hT, hr, hlk⟩ := id C
  have hA : ∀ q : Nat, s.heap.size ≤ q → aH s q := fun _ q => q
  obtain ⟨r, SN', SZ', F', G', J', q1, q2, h'⟩ := e_sheet h (xs (i + 1)) (xs (i + 2)) (xs (i + 3))
  refine lv_aload_n hx hb dL_law_968 rfl (lv_at hl 1 rfl) ?_
  refine lw_arg hc hH hl 1 (by omega) rfl dL_law_969 dL_law_970 dL_law_971 dL_law_972 dL_law_973 ?_
  refine lw_arg hc hH hl 2 (by omega) rfl dL_law_974 dL_law_975 dL_law_976 dL_law_977 dL_law_978 ?_
  refine lw_arg hc hH hl 3 (by omega) rfl dL_law_979 dL_law_980 dL_law_981 dL_law_982 dL_law_983 ?_
  refine aftI (runV C hE hA hH [0, 1, 2, 3, 4, 5, 6, 7, 8, 9, 10, 11, 12, 13, 14, 15, 16, 17, 18, 19, 20, 21, 22, 23, 24, 25, 26, 27, 28, 29, 30, 31, 32, 33] nd_34 (sC_XM_X g ax am R1 R2 R3 K T SN SZ F G J) (kX5_sheet l g ax _ R1 R2 R3 K T SN SZ F (xs (i + 1)) (xs (i + 2)) (xs (i + 3)) r SN' SZ' F' q1) tw_34_0 tw_34_1 tw_34_2 tw_1_2 tw_34_3 hdX5_sheet 0 rfl rfl rfl rfl ⟨Nat.le_of_ble_eq_true rfl, Nat.le_of_ble_eq_true rfl⟩ rfl hl.1 (rest := []) rfl (Nat.le_of_ble_eq_true rfl) dL_law_984 ⟨Nat.le_of_ble_eq_true rfl, Nat.le_of_ble_eq_true rfl⟩) hA hH [0, 1, 2, 3, 4, 5, 6, 7, 8, 9, 10, 11, 12, 13, 14, 15, 16, 17, 18, 19, 20, 21, 22, 23, 24, 25, 26, 27, 28, 29, 30, 31, 32, 33] [34, 35, 36, 37, 38, 39, 40, 41, 42, 43, 44, 45] (sC_XM_X g ax am R1 R2 R3 K T SN SZ F G J) (sR_XM_X g ax am R1 R2 R3 K T SN SZ F G J) nd_12 dj_XM_X [12, 13, 14, 15, 16, 17, 18, 19, 20, 21, 22, 23, 24, 25, 26, 27, 28, 29, 30, 31, 32, 33, 34, 35, 36, 37, 38, 39, 40, 41, 42, 43, 44, 45, 0, 1, 2, 3, 4, 5, 6, 7, 8, 9, 10, 11] nd_46p (sP_XM_X g ax am R1 R2 R3 K T SN SZ F G J R1 R2 R3 K T SN' SZ' F') (fun H locs hH => ?_)
  refine lv_aload_n hx hb dL_law_987 rfl (lv_at hl 2 rfl) ?_
  refine lw_arg hc hH hl 1 (by omega) rfl dL_law_988 dL_law_989 dL_law_990 dL_law_991 dL_law_992 ?_
  refine lw_arg hc hH hl 2 (by omega) rfl dL_law_993 dL_law_994 dL_law_995 dL_law_996 dL_law_997 ?_
  refine lw_arg hc hH hl 3 (by omega) rfl dL_law_998 dL_law_999 dL_law_1000 dL_law_1001 dL_law_1002 ?_
  refine aftI (runV C hE hA hH [34, 35, 36, 37, 38, 39, 40, 41, 42, 43, 44, 45] nd_12 (sC_XM_M g ax am R1 R2 R3 K T SN' SZ' F' G J) (kX6_sheet l g am _ G J (xs (i + 1)) (xs (i + 2)) (xs (i + 3)) r G' J' q2) tw_34_21 tw_34_22 tw_34_23 tw_1_5 tw_35_0 hdX6_sheet 34 rfl rfl rfl rfl ⟨Nat.le_of_ble_eq_true rfl, Nat.le_of_ble_eq_true rfl⟩ rfl hl.1 (rest := [.int r]) rfl (Nat.le_of_ble_eq_true rfl) dL_law_1003 ⟨Nat.le_of_ble_eq_true rfl, Nat.le_of_ble_eq_true rfl⟩) hA hH [34, 35, 36, 37, 38, 39, 40, 41, 42, 43, 44, 45] [0, 1, 2, 3, 4, 5, 6, 7, 8, 9, 10, 11, 12, 13, 14, 15, 16, 17, 18, 19, 20, 21, 22, 23, 24, 25, 26, 27, 28, 29, 30, 31, 32, 33] (sC_XM_M g ax am R1 R2 R3 K T SN' SZ' F' G J) (sR_XM_M g ax am R1 R2 R3 K T SN' SZ' F' G J) nd_34 dj_XM_M [0, 1, 2, 3, 4, 5, 6, 7, 8, 9, 10, 11, 12, 13, 14, 15, 16, 17, 18, 19, 20, 21, 22, 23, 24, 25, 26, 27, 28, 29, 30, 31, 32, 33, 34, 35, 36, 37, 38, 39, 40, 41, 42, 43, 44, 45] nd_46 (sP_XM_M g ax am R1 R2 R3 K T SN' SZ' F' G J G' J') (fun H locs hH => ?_)
  refine lv_icmp_eq (tgt := 1312) hx hb dL_law_1006 (by decide) (fun _ => ?_) (fun c9 => absurd rfl c9)
  exact kk _ _ _ _ _ _ _ _ _ _ h' _ _ ls hH hl
set_option maxHeartbeats 4000000 in
set_option maxRecDepth 100000 in
theorem lc_write (hc : Lc p s m meth c b L xs g) (hi : i + 6 ≤ L) (kk : Kk p l e s m below meth c b g ax am i 1312) : Kk p l e s m below meth c b g ax am i 1011 := by
  intro R1 R2 R3 K T SN SZ F G J h H locs ls hH hl
  obtain ⟨C, hE, hX, hbl, hL⟩ := id hc
  obtain ⟨hx, hb, hml, hown, hT, hr, hlk⟩ := id C
  have hA : ∀ q : Nat, s.heap.size ≤ q → aH s q := fun _ q => q
  obtain ⟨r, SN', F', G', J', q1, q2, h'⟩ := e_write h (xs (i + 1)) (xs (i + 2)) ((xs (i + 3)).toInt64 <<< ((32 : Int32).toInt64 &&& 63) ||| ((xs (i + 4)).toInt64 &&& (4294967295 : Int64)))
  refine lv_aload_n hx hb dL_law_1011 rfl (lv_at hl 1 rfl) ?_
  refine lw_arg hc hH hl 1 (by omega) rfl dL_law_1012 dL_law_1013 dL_law_1014 dL_law_1015 dL_law_1016 ?_
  refine lw_arg hc hH hl 2 (by omega) rfl dL_law_1017 dL_law_1018 dL_law_1019 dL_law_1020 dL_law_1021 ?_
  refine lw_arg hc hH hl 3 (by omega) rfl dL_law_1022 dL_law_1023 dL_law_1024 dL_law_1025 dL_law_1026 ?_
  refine lv_i2l hx hb dL_law_1027 rfl ?_
  refine lv_bipush (v := 32) hx hb dL_law_1028 (by decide) ?_
  refine lv_lshl hx hb dL_law_1030 rfl ?_
  refine lw_arg hc hH hl 4 (by omega) rfl dL_law_1031 dL_law_1032 dL_law_1033 dL_law_1034 dL_law_1035 ?_
  refine lv_i2l hx hb dL_law_1036 rfl ?_
  refine W.ldc2 hx hb hown (hT _ tw_1_6) rfl dL_law_1037 ?_
  refine W.eq (g2 := F0 m 1040 ls [.long (4294967295 : Int64), .long (xs (i + 4)).toInt64, .long ((xs (i + 3)).toInt64 <<< ((32 : Int32).toInt64 &&& 63)), .int (xs (i + 2)), .int (xs (i + 1)), .ref (ax 0)]) rfl ?_
  refine lv_land hx hb dL_law_1040 ?_
  refine lv_lor hx hb dL_law_1041 ?_
  refine aftJ (runV C hE hA hH [0, 1, 2, 3, 4, 5, 6, 7, 8, 9, 10, 11, 12, 13, 14, 15, 16, 17, 18, 19, 20, 21, 22, 23, 24, 25, 26, 27, 28, 29, 30, 31, 32, 33] nd_34 (sC_XM_X g ax am R1 R2 R3 K T SN SZ F G J) (kX5_write l g ax _ R1 R2 R3 K T SN SZ F (xs (i + 1)) (xs (i + 2)) ((xs (i + 3)).toInt64 <<< ((32 : Int32).toInt64 &&& 63) ||| ((xs (i + 4)).toInt64 &&& (4294967295 : Int64))) r SN' F' q1) tw_35_5 tw_35_6 tw_35_7 tw_1_2 tw_35_8 hdX5_write 0 rfl rfl rfl rfl ⟨Nat.le_of_ble_eq_true rfl, Nat.le_of_ble_eq_true rfl⟩ rfl hl.1 (rest := []) rfl (Nat.le_of_ble_eq_true rfl) dL_law_1042 ⟨Nat.le_of_ble_eq_true rfl, Nat.le_of_ble_eq_true rfl⟩) hA hH [0, 1, 2, 3, 4, 5, 6, 7, 8, 9, 10, 11, 12, 13, 14, 15, 16, 17, 18, 19, 20, 21, 22, 23, 24, 25, 26, 27, 28, 29, 30, 31, 32, 33] [34, 35, 36, 37, 38, 39, 40, 41, 42, 43, 44, 45] (sC_XM_X g ax am R1 R2 R3 K T SN SZ F G J) (sR_XM_X g ax am R1 R2 R3 K T SN SZ F G J) nd_12 dj_XM_X [12, 13, 14, 15, 16, 17, 18, 19, 20, 21, 22, 23, 24, 25, 26, 27, 28, 29, 30, 31, 32, 33, 34, 35, 36, 37, 38, 39, 40, 41, 42, 43, 44, 45, 0, 1, 2, 3, 4, 5, 6, 7, 8, 9, 10, 11] nd_46p (sP_XM_X g ax am R1 R2 R3 K T SN SZ F G J R1 R2 R3 K T SN' SZ F') (fun H locs hH => ?_)
  refine lv_aload_n hx hb dL_law_1045 rfl (lv_at hl 2 rfl) ?_
  refine lw_arg hc hH hl 1 (by omega) rfl dL_law_1046 dL_law_1047 dL_law_1048 dL_law_1049 dL_law_1050 ?_
  refine lw_arg hc hH hl 2 (by omega) rfl dL_law_1051 dL_law_1052 dL_law_1053 dL_law_1054 dL_law_1055 ?_
  refine lw_arg hc hH hl 3 (by omega) rfl dL_law_1056 dL_law_1057 dL_law_1058 dL_law_1059 dL_law_1060 ?_
  refine lv_i2l hx hb dL_law_1061 rfl ?_
  refine lv_bipush (v := 32) hx hb dL_law_1062 (by decide) ?_
  refine lv_lshl hx hb dL_law_1064 rfl ?_
  refine lw_arg hc hH hl 4 (by omega) rfl dL_law_1065 dL_law_1066 dL_law_1067 dL_law_1068 dL_law_1069 ?_
  refine lv_i2l hx hb dL_law_1070 rfl ?_
  refine W.ldc2 hx hb hown (hT _ tw_1_6) rfl dL_law_1071 ?_
  refine W.eq (g2 := F0 m 1074 ls [.long (4294967295 : Int64), .long (xs (i + 4)).toInt64, .long ((xs (i + 3)).toInt64 <<< ((32 : Int32).toInt64 &&& 63)), .int (xs (i + 2)), .int (xs (i + 1)), .ref (am 0), .long r]) rfl ?_
  refine lv_land hx hb dL_law_1074 ?_
  refine lv_lor hx hb dL_law_1075 ?_
  refine aftJ (runV C hE hA hH [34, 35, 36, 37, 38, 39, 40, 41, 42, 43, 44, 45] nd_12 (sC_XM_M g ax am R1 R2 R3 K T SN' SZ F' G J) (kX6_write l g am _ G J (xs (i + 1)) (xs (i + 2)) ((xs (i + 3)).toInt64 <<< ((32 : Int32).toInt64 &&& 63) ||| ((xs (i + 4)).toInt64 &&& (4294967295 : Int64))) r G' J' q2) tw_35_19 tw_35_20 tw_35_21 tw_1_5 tw_35_22 hdX6_write 34 rfl rfl rfl rfl ⟨Nat.le_of_ble_eq_true rfl, Nat.le_of_ble_eq_true rfl⟩ rfl hl.1 (rest := [.long r]) rfl (Nat.le_of_ble_eq_true rfl) dL_law_1076 ⟨Nat.le_of_ble_eq_true rfl, Nat.le_of_ble_eq_true rfl⟩) hA hH [34, 35, 36, 37, 38, 39, 40, 41, 42, 43, 44, 45] [0, 1, 2, 3, 4, 5, 6, 7, 8, 9, 10, 11, 12, 13, 14, 15, 16, 17, 18, 19, 20, 21, 22, 23, 24, 25, 26, 27, 28, 29, 30, 31, 32, 33] (sC_XM_M g ax am R1 R2 R3 K T SN' SZ F' G J) (sR_XM_M g ax am R1 R2 R3 K T SN' SZ F' G J) nd_34 dj_XM_M [0, 1, 2, 3, 4, 5, 6, 7, 8, 9, 10, 11, 12, 13, 14, 15, 16, 17, 18, 19, 20, 21, 22, 23, 24, 25, 26, 27, 28, 29, 30, 31, 32, 33, 34, 35, 36, 37, 38, 39, 40, 41, 42, 43, 44, 45] nd_46 (sP_XM_M g ax am R1 R2 R3 K T SN' SZ F' G J G' J') (fun H locs hH => ?_)
  refine W.lcmp hx hb dL_law_1079 ?_
  refine lv_if_eq (tgt := 1312) hx hb dL_law_1080 (by decide) (fun _ => ?_) (fun c9 => absurd ((lg0 r r).mpr rfl) c9)
  exact kk _ _ _ _ _ _ _ _ _ _ h' _ _ ls hH hl
set_option maxHeartbeats 4000000 in
set_option maxRecDepth 100000 in
theorem lc_copy (hc : Lc p s m meth c b L xs g) (hi : i + 6 ≤ L) (kk : Kk p l e s m below meth c b g ax am i 1312) : Kk p l e s m below meth c b g ax am i 1085 := by
  intro R1 R2 R3 K T SN SZ F G J h H locs ls hH hl
  obtain ⟨C, hE, hX, hbl, hL⟩ := id hc
  obtain ⟨hx, hb, hml, hown, hT, hr, hlk⟩ := id C
  have hA : ∀ q : Nat, s.heap.size ≤ q → aH s q := fun _ q => q
  obtain ⟨r, SN', F', G', J', q1, q2, h'⟩ := e_copy h (xs (i + 1)) (xs (i + 2)) (xs (i + 3)) (xs (i + 4)) (xs (i + 5))
  refine lv_aload_n hx hb dL_law_1085 rfl (lv_at hl 1 rfl) ?_
  refine lw_arg hc hH hl 1 (by omega) rfl dL_law_1086 dL_law_1087 dL_law_1088 dL_law_1089 dL_law_1090 ?_
  refine lw_arg hc hH hl 2 (by omega) rfl dL_law_1091 dL_law_1092 dL_law_1093 dL_law_1094 dL_law_1095 ?_
  refine lw_arg hc hH hl 3 (by omega) rfl dL_law_1096 dL_law_1097 dL_law_1098 dL_law_1099 dL_law_1100 ?_
  refine lw_arg hc hH hl 4 (by omega) rfl dL_law_1101 dL_law_1102 dL_law_1103 dL_law_1104 dL_law_1105 ?_
  refine lw_arg hc hH hl 5 (by omega) rfl dL_law_1106 dL_law_1107 dL_law_1108 dL_law_1109 dL_law_1110 ?_
  refine aftI (runV C hE hA hH [0, 1, 2, 3, 4, 5, 6, 7, 8, 9, 10, 11, 12, 13, 14, 15, 16, 17, 18, 19, 20, 21, 22, 23, 24, 25, 26, 27, 28, 29, 30, 31, 32, 33] nd_34 (sC_XM_X g ax am R1 R2 R3 K T SN SZ F G J) (kX5_copy l g ax _ R1 R2 R3 K T SN SZ F (xs (i + 1)) (xs (i + 2)) (xs (i + 3)) (xs (i + 4)) (xs (i + 5)) r SN' F' q1) tw_36_3 tw_36_4 tw_36_5 tw_1_2 tw_36_6 hdX5_copy 0 rfl rfl rfl rfl ⟨Nat.le_of_ble_eq_true rfl, Nat.le_of_ble_eq_true rfl⟩ rfl hl.1 (rest := []) rfl (Nat.le_of_ble_eq_true rfl) dL_law_1111 ⟨Nat.le_of_ble_eq_true rfl, Nat.le_of_ble_eq_true rfl⟩) hA hH [0, 1, 2, 3, 4, 5, 6, 7, 8, 9, 10, 11, 12, 13, 14, 15, 16, 17, 18, 19, 20, 21, 22, 23, 24, 25, 26, 27, 28, 29, 30, 31, 32, 33] [34, 35, 36, 37, 38, 39, 40, 41, 42, 43, 44, 45] (sC_XM_X g ax am R1 R2 R3 K T SN SZ F G J) (sR_XM_X g ax am R1 R2 R3 K T SN SZ F G J) nd_12 dj_XM_X [12, 13, 14, 15, 16, 17, 18, 19, 20, 21, 22, 23, 24, 25, 26, 27, 28, 29, 30, 31, 32, 33, 34, 35, 36, 37, 38, 39, 40, 41, 42, 43, 44, 45, 0, 1, 2, 3, 4, 5, 6, 7, 8, 9, 10, 11] nd_46p (sP_XM_X g ax am R1 R2 R3 K T SN SZ F G J R1 R2 R3 K T SN' SZ F') (fun H locs hH => ?_)
  refine lv_aload_n hx hb dL_law_1114 rfl (lv_at hl 2 rfl) ?_
  refine lw_arg hc hH hl 1 (by omega) rfl dL_law_1115 dL_law_1116 dL_law_1117 dL_law_1118 dL_law_1119 ?_
  refine lw_arg hc hH hl 2 (by omega) rfl dL_law_1120 dL_law_1121 dL_law_1122 dL_law_1123 dL_law_1124 ?_
  refine lw_arg hc hH hl 3 (by omega) rfl dL_law_1125 dL_law_1126 dL_law_1127 dL_law_1128 dL_law_1129 ?_
  refine lw_arg hc hH hl 4 (by omega) rfl dL_law_1130 dL_law_1131 dL_law_1132 dL_law_1133 dL_law_1134 ?_
  refine lw_arg hc hH hl 5 (by omega) rfl dL_law_1135 dL_law_1136 dL_law_1137 dL_law_1138 dL_law_1139 ?_
  refine aftI (runV C hE hA hH [34, 35, 36, 37, 38, 39, 40, 41, 42, 43, 44, 45] nd_12 (sC_XM_M g ax am R1 R2 R3 K T SN' SZ F' G J) (kX6_copy l g am _ G J (xs (i + 1)) (xs (i + 2)) (xs (i + 3)) (xs (i + 4)) (xs (i + 5)) r G' J' q2) tw_36_13 tw_36_14 tw_36_15 tw_1_5 tw_36_16 hdX6_copy 34 rfl rfl rfl rfl ⟨Nat.le_of_ble_eq_true rfl, Nat.le_of_ble_eq_true rfl⟩ rfl hl.1 (rest := [.int r]) rfl (Nat.le_of_ble_eq_true rfl) dL_law_1140 ⟨Nat.le_of_ble_eq_true rfl, Nat.le_of_ble_eq_true rfl⟩) hA hH [34, 35, 36, 37, 38, 39, 40, 41, 42, 43, 44, 45] [0, 1, 2, 3, 4, 5, 6, 7, 8, 9, 10, 11, 12, 13, 14, 15, 16, 17, 18, 19, 20, 21, 22, 23, 24, 25, 26, 27, 28, 29, 30, 31, 32, 33] (sC_XM_M g ax am R1 R2 R3 K T SN' SZ F' G J) (sR_XM_M g ax am R1 R2 R3 K T SN' SZ F' G J) nd_34 dj_XM_M [0, 1, 2, 3, 4, 5, 6, 7, 8, 9, 10, 11, 12, 13, 14, 15, 16, 17, 18, 19, 20, 21, 22, 23, 24, 25, 26, 27, 28, 29, 30, 31, 32, 33, 34, 35, 36, 37, 38, 39, 40, 41, 42, 43, 44, 45] nd_46 (sP_XM_M g ax am R1 R2 R3 K T SN' SZ F' G J G' J') (fun H locs hH => ?_)
  refine lv_icmp_eq (tgt := 1312) hx hb dL_law_1143 (by decide) (fun _ => ?_) (fun c9 => absurd rfl c9)
  exact kk _ _ _ _ _ _ _ _ _ _ h' _ _ ls hH hl
set_option maxHeartbeats 4000000 in
set_option maxRecDepth 100000 in
theorem lc_lays (hc : Lc p s m meth c b L xs g) (hi : i + 6 ≤ L) (kk : Kk p l e s m below meth c b g ax am i 1312) : Kk p l e s m below meth c b g ax am i 1148 := by
  intro R1 R2 R3 K T SN SZ F G J h H locs ls hH hl
  obtain ⟨C, hE, hX, hbl, hL⟩ := id hc
  obtain ⟨hx, hb, hml, hown, hT, hr, hlk⟩ := id C
  have hA : ∀ q : Nat, s.heap.size ≤ q → aH s q := fun _ q => q
  obtain ⟨r, R1', F', G', q1, q2, h'⟩ := e_lays h (xs (i + 1))
  refine lv_aload_n hx hb dL_law_1148 rfl (lv_at hl 1 rfl) ?_
  refine lw_arg hc hH hl 1 (by omega) rfl dL_law_1149 dL_law_1150 dL_law_1151 dL_law_1152 dL_law_1153 ?_
  refine aftI (runV C hE hA hH [0, 1, 2, 3, 4, 5, 6, 7, 8, 9, 10, 11, 12, 13, 14, 15, 16, 17, 18, 19, 20, 21, 22, 23, 24, 25, 26, 27, 28, 29, 30, 31, 32, 33] nd_34 (sC_XM_X g ax am R1 R2 R3 K T SN SZ F G J) (kX5_lays l g ax _ R1 R2 R3 K T SN SZ F (xs (i + 1)) r R1' F' q1) tw_36_21 tw_36_22 tw_36_23 tw_1_2 tw_37_0 hdX5_lays 0 rfl rfl rfl rfl ⟨Nat.le_of_ble_eq_true rfl, Nat.le_of_ble_eq_true rfl⟩ rfl hl.1 (rest := []) rfl (Nat.le_of_ble_eq_true rfl) dL_law_1154 ⟨Nat.le_of_ble_eq_true rfl, Nat.le_of_ble_eq_true rfl⟩) hA hH [0, 1, 2, 3, 4, 5, 6, 7, 8, 9, 10, 11, 12, 13, 14, 15, 16, 17, 18, 19, 20, 21, 22, 23, 24, 25, 26, 27, 28, 29, 30, 31, 32, 33] [34, 35, 36, 37, 38, 39, 40, 41, 42, 43, 44, 45] (sC_XM_X g ax am R1 R2 R3 K T SN SZ F G J) (sR_XM_X g ax am R1 R2 R3 K T SN SZ F G J) nd_12 dj_XM_X [12, 13, 14, 15, 16, 17, 18, 19, 20, 21, 22, 23, 24, 25, 26, 27, 28, 29, 30, 31, 32, 33, 34, 35, 36, 37, 38, 39, 40, 41, 42, 43, 44, 45, 0, 1, 2, 3, 4, 5, 6, 7, 8, 9, 10, 11] nd_46p (sP_XM_X g ax am R1 R2 R3 K T SN SZ F G J R1' R2 R3 K T SN SZ F') (fun H locs hH => ?_)
  refine lv_aload_n hx hb dL_law_1157 rfl (lv_at hl 2 rfl) ?_
  refine lw_arg hc hH hl 1 (by omega) rfl dL_law_1158 dL_law_1159 dL_law_1160 dL_law_1161 dL_law_1162 ?_
  refine aftI (runV C hE hA hH [34, 35, 36, 37, 38, 39, 40, 41, 42, 43, 44, 45] nd_12 (sC_XM_M g ax am R1' R2 R3 K T SN SZ F' G J) (kX6_lays l g am _ G J (xs (i + 1)) r G' q2) tw_37_2 tw_37_3 tw_37_4 tw_1_5 tw_37_5 hdX6_lays 34 rfl rfl rfl rfl ⟨Nat.le_of_ble_eq_true rfl, Nat.le_of_ble_eq_true rfl⟩ rfl hl.1 (rest := [.int r]) rfl (Nat.le_of_ble_eq_true rfl) dL_law_1163 ⟨Nat.le_of_ble_eq_true rfl, Nat.le_of_ble_eq_true rfl⟩) hA hH [34, 35, 36, 37, 38, 39, 40, 41, 42, 43, 44, 45] [0, 1, 2, 3, 4, 5, 6, 7, 8, 9, 10, 11, 12, 13, 14, 15, 16, 17, 18, 19, 20, 21, 22, 23, 24, 25, 26, 27, 28, 29, 30, 31, 32, 33] (sC_XM_M g ax am R1' R2 R3 K T SN SZ F' G J) (sR_XM_M g ax am R1' R2 R3 K T SN SZ F' G J) nd_34 dj_XM_M [0, 1, 2, 3, 4, 5, 6, 7, 8, 9, 10, 11, 12, 13, 14, 15, 16, 17, 18, 19, 20, 21, 22, 23, 24, 25, 26, 27, 28, 29, 30, 31, 32, 33, 34, 35, 36, 37, 38, 39, 40, 41, 42, 43, 44, 45] nd_46 (sP_XM_M g ax am R1' R2 R3 K T SN SZ F' G J G' J) (fun H locs hH => ?_)
  refine lv_icmp_eq (tgt := 1312) hx hb dL_law_1166 (by decide) (fun _ => ?_) (fun c9 => absurd rfl c9)
  exact kk _ _ _ _ _ _ _ _ _ _ h' _ _ ls hH hl
set_option maxHeartbeats 4000000 in
set_option maxRecDepth 100000 in
theorem lc_book (hc : Lc p s m meth c b L xs g) (hi : i + 6 ≤ L) (kk : Kk p l e s m below meth c b g ax am i 1312) : Kk p l e s m below meth c b g ax am i 1171 := by
  intro R1 R2 R3 K T SN SZ F G J h H locs ls hH hl
  obtain ⟨C, hE, hX, hbl, hL⟩ := id hc
  obtain ⟨hx, hb, hml, hown, hT, hr, hlk⟩ := id C
  have hA : ∀ q : Nat, s.heap.size ≤ q → aH s q := fun _ q => q
  obtain ⟨r, R2', SN', F', G', J', q1, q2, h'⟩ := e_book h (xs (i + 1))
  refine lv_aload_n hx hb dL_law_1171 rfl (lv_at hl 1 rfl) ?_
  refine lw_arg hc hH hl 1 (by omega) rfl dL_law_1172 dL_law_1173 dL_law_1174 dL_law_1175 dL_law_1176 ?_
  refine aftI (runV C hE hA hH [0, 1, 2, 3, 4, 5, 6, 7, 8, 9, 10, 11, 12, 13, 14, 15, 16, 17, 18, 19, 20, 21, 22, 23, 24, 25, 26, 27, 28, 29, 30, 31, 32, 33] nd_34 (sC_XM_X g ax am R1 R2 R3 K T SN SZ F G J) (kX5_book l g ax _ R1 R2 R3 K T SN SZ F (xs (i + 1)) r R2' SN' F' q1) tw_37_11 tw_37_12 tw_37_13 tw_1_2 tw_37_14 hdX5_book 0 rfl rfl rfl rfl ⟨Nat.le_of_ble_eq_true rfl, Nat.le_of_ble_eq_true rfl⟩ rfl hl.1 (rest := []) rfl (Nat.le_of_ble_eq_true rfl) dL_law_1177 ⟨Nat.le_of_ble_eq_true rfl, Nat.le_of_ble_eq_true rfl⟩) hA hH [0, 1, 2, 3, 4, 5, 6, 7, 8, 9, 10, 11, 12, 13, 14, 15, 16, 17, 18, 19, 20, 21, 22, 23, 24, 25, 26, 27, 28, 29, 30, 31, 32, 33] [34, 35, 36, 37, 38, 39, 40, 41, 42, 43, 44, 45] (sC_XM_X g ax am R1 R2 R3 K T SN SZ F G J) (sR_XM_X g ax am R1 R2 R3 K T SN SZ F G J) nd_12 dj_XM_X [12, 13, 14, 15, 16, 17, 18, 19, 20, 21, 22, 23, 24, 25, 26, 27, 28, 29, 30, 31, 32, 33, 34, 35, 36, 37, 38, 39, 40, 41, 42, 43, 44, 45, 0, 1, 2, 3, 4, 5, 6, 7, 8, 9, 10, 11] nd_46p (sP_XM_X g ax am R1 R2 R3 K T SN SZ F G J R1 R2' R3 K T SN' SZ F') (fun H locs hH => ?_)
  refine lv_aload_n hx hb dL_law_1180 rfl (lv_at hl 2 rfl) ?_
  refine lw_arg hc hH hl 1 (by omega) rfl dL_law_1181 dL_law_1182 dL_law_1183 dL_law_1184 dL_law_1185 ?_
  refine aftI (runV C hE hA hH [34, 35, 36, 37, 38, 39, 40, 41, 42, 43, 44, 45] nd_12 (sC_XM_M g ax am R1 R2' R3 K T SN' SZ F' G J) (kX6_book l g am _ G J (xs (i + 1)) r G' J' q2) tw_37_15 tw_37_16 tw_37_17 tw_1_5 tw_37_18 hdX6_book 34 rfl rfl rfl rfl ⟨Nat.le_of_ble_eq_true rfl, Nat.le_of_ble_eq_true rfl⟩ rfl hl.1 (rest := [.int r]) rfl (Nat.le_of_ble_eq_true rfl) dL_law_1186 ⟨Nat.le_of_ble_eq_true rfl, Nat.le_of_ble_eq_true rfl⟩) hA hH [34, 35, 36, 37, 38, 39, 40, 41, 42, 43, 44, 45] [0, 1, 2, 3, 4, 5, 6, 7, 8, 9, 10, 11, 12, 13, 14, 15, 16, 17, 18, 19, 20, 21, 22, 23, 24, 25, 26, 27, 28, 29, 30, 31, 32, 33] (sC_XM_M g ax am R1 R2' R3 K T SN' SZ F' G J) (sR_XM_M g ax am R1 R2' R3 K T SN' SZ F' G J) nd_34 dj_XM_M [0, 1, 2, 3, 4, 5, 6, 7, 8, 9, 10, 11, 12, 13, 14, 15, 16, 17, 18, 19, 20, 21, 22, 23, 24, 25, 26, 27, 28, 29, 30, 31, 32, 33, 34, 35, 36, 37, 38, 39, 40, 41, 42, 43, 44, 45] nd_46 (sP_XM_M g ax am R1 R2' R3 K T SN' SZ F' G J G' J') (fun H locs hH => ?_)
  refine lv_icmp_eq (tgt := 1312) hx hb dL_law_1189 (by decide) (fun _ => ?_) (fun c9 => absurd rfl c9)
  exact kk _ _ _ _ _ _ _ _ _ _ h' _ _ ls hH hl
set_option maxHeartbeats 4000000 in
set_option maxRecDepth 100000 in
theorem lc_read (hc : Lc p s m meth c b L xs g) (hi : i + 6 ≤ L) (kk : Kk p l e s m below meth c b g ax am i 1312) : Kk p l e s m below meth c b g ax am i 1194 := by
  intro R1 R2 R3 K T SN SZ F G J h H locs ls hH hl
  obtain ⟨C, hE, hX, hbl, hL⟩ := id hc
  obtain ⟨hx, hb, hml, hown, hT, hr, hlk⟩ := id C
  have hA : ∀ q : Nat, s.heap.size ≤ q → aH s q := fun _ q => q
  obtain ⟨r, R2', F', G', q1, q2, h'⟩ := e_read h (xs (i + 1)) (xs (i + 2))
  refine lv_aload_n hx hb dL_law_1194 rfl (lv_at hl 1 rfl) ?_
  refine lw_arg hc hH hl 1 (by omega) rfl dL_law_1195 dL_law_1196 dL_law_1197 dL_law_1198 dL_law_1199 ?_
  refine lw_arg hc hH hl 2 (by omega) rfl dL_law_1200 dL_law_1201 dL_law_1202 dL_law_1203 dL_law_1204 ?_
  refine aftI (runV C hE hA hH [0, 1, 2, 3, 4, 5, 6, 7, 8, 9, 10, 11, 12, 13, 14, 15, 16, 17, 18, 19, 20, 21, 22, 23, 24, 25, 26, 27, 28, 29, 30, 31, 32, 33] nd_34 (sC_XM_X g ax am R1 R2 R3 K T SN SZ F G J) (kX5_read l g ax _ R1 R2 R3 K T SN SZ F (xs (i + 1)) (xs (i + 2)) r R2' F' q1) tw_37_19 tw_37_20 tw_37_21 tw_1_2 tw_37_22 hdX5_read 0 rfl rfl rfl rfl ⟨Nat.le_of_ble_eq_true rfl, Nat.le_of_ble_eq_true rfl⟩ rfl hl.1 (rest := []) rfl (Nat.le_of_ble_eq_true rfl) dL_law_1205 ⟨Nat.le_of_ble_eq_true rfl, Nat.le_of_ble_eq_true rfl⟩) hA hH [0, 1, 2, 3, 4, 5, 6, 7, 8, 9, 10, 11, 12, 13, 14, 15, 16, 17, 18, 19, 20, 21, 22, 23, 24, 25, 26, 27, 28, 29, 30, 31, 32, 33] [34, 35, 36, 37, 38, 39, 40, 41, 42, 43, 44, 45] (sC_XM_X g ax am R1 R2 R3 K T SN SZ F G J) (sR_XM_X g ax am R1 R2 R3 K T SN SZ F G J) nd_12 dj_XM_X [12, 13, 14, 15, 16, 17, 18, 19, 20, 21, 22, 23, 24, 25, 26, 27, 28, 29, 30, 31, 32, 33, 34, 35, 36, 37, 38, 39, 40, 41, 42, 43, 44, 45, 0, 1, 2, 3, 4, 5, 6, 7, 8, 9, 10, 11] nd_46p (sP_XM_X g ax am R1 R2 R3 K T SN SZ F G J R1 R2' R3 K T SN SZ F') (fun H locs hH => ?_)
  refine lv_aload_n hx hb dL_law_1208 rfl (lv_at hl 2 rfl) ?_
  refine lw_arg hc hH hl 1 (by omega) rfl dL_law_1209 dL_law_1210 dL_law_1211 dL_law_1212 dL_law_1213 ?_
  refine lw_arg hc hH hl 2 (by omega) rfl dL_law_1214 dL_law_1215 dL_law_1216 dL_law_1217 dL_law_1218 ?_
  refine aftI (runV C hE hA hH [34, 35, 36, 37, 38, 39, 40, 41, 42, 43, 44, 45] nd_12 (sC_XM_M g ax am R1 R2' R3 K T SN SZ F' G J) (kX6_read l g am _ G J (xs (i + 1)) (xs (i + 2)) r G' q2) tw_38_8 tw_38_9 tw_38_10 tw_1_5 tw_38_11 hdX6_read 34 rfl rfl rfl rfl ⟨Nat.le_of_ble_eq_true rfl, Nat.le_of_ble_eq_true rfl⟩ rfl hl.1 (rest := [.int r]) rfl (Nat.le_of_ble_eq_true rfl) dL_law_1219 ⟨Nat.le_of_ble_eq_true rfl, Nat.le_of_ble_eq_true rfl⟩) hA hH [34, 35, 36, 37, 38, 39, 40, 41, 42, 43, 44, 45] [0, 1, 2, 3, 4, 5, 6, 7, 8, 9, 10, 11, 12, 13, 14, 15, 16, 17, 18, 19, 20, 21, 22, 23, 24, 25, 26, 27, 28, 29, 30, 31, 32, 33] (sC_XM_M g ax am R1 R2' R3 K T SN SZ F' G J) (sR_XM_M g ax am R1 R2' R3 K T SN SZ F' G J) nd_34 dj_XM_M [0, 1, 2, 3, 4, 5, 6, 7, 8, 9, 10, 11, 12, 13, 14, 15, 16, 17, 18, 19, 20, 21, 22, 23, 24, 25, 26, 27, 28, 29, 30, 31, 32, 33, 34, 35, 36, 37, 38, 39, 40, 41, 42, 43, 44, 45] nd_46 (sP_XM_M g ax am R1 R2' R3 K T SN SZ F' G J G' J) (fun H locs hH => ?_)
  refine lv_icmp_eq (tgt := 1312) hx hb dL_law_1222 (by decide) (fun _ => ?_) (fun c9 => absurd rfl c9)
  exact kk _ _ _ _ _ _ _ _ _ _ h' _ _ ls hH hl
set_option maxHeartbeats 4000000 in
set_option maxRecDepth 100000 in
theorem lc_image (hc : Lc p s m meth c b L xs g) (hi : i + 6 ≤ L) (kk : Kk p l e s m below meth c b g ax am i 1312) : Kk p l e s m below meth c b g ax am i 1227 := by
  intro R1 R2 R3 K T SN SZ F G J h H locs ls hH hl
  obtain ⟨C, hE, hX, hbl, hL⟩ := id hc
  obtain ⟨hx, hb, hml, hown, hT, hr, hlk⟩ := id C
  have hA : ∀ q : Nat, s.heap.size ≤ q → aH s q := fun _ q => q
  obtain ⟨r, R3', K', G', q1, q2, h'⟩ := e_image h 
  refine lv_aload_n hx hb dL_law_1227 rfl (lv_at hl 1 rfl) ?_
  refine aftI (runV C hE hA hH [0, 1, 2, 3, 4, 5, 6, 7, 8, 9, 10, 11, 12, 13, 14, 15, 16, 17, 18, 19, 20, 21, 22, 23, 24, 25, 26, 27, 28, 29, 30, 31, 32, 33] nd_34 (sC_XM_X g ax am R1 R2 R3 K T SN SZ F G J) (kX5_image l g ax _ R1 R2 R3 K T SN SZ F  r R3' K' q1) tw_38_16 tw_38_17 tw_38_18 tw_1_2 tw_38_19 hdX5_image 0 rfl rfl rfl rfl ⟨Nat.le_of_ble_eq_true rfl, Nat.le_of_ble_eq_true rfl⟩ rfl hl.1 (rest := []) rfl (Nat.le_of_ble_eq_true rfl) dL_law_1228 ⟨Nat.le_of_ble_eq_true rfl, Nat.le_of_ble_eq_true rfl⟩) hA hH [0, 1, 2, 3, 4, 5, 6, 7, 8, 9, 10, 11, 12, 13, 14, 15, 16, 17, 18, 19, 20, 21, 22, 23, 24, 25, 26, 27, 28, 29, 30, 31, 32, 33] [34, 35, 36, 37, 38, 39, 40, 41, 42, 43, 44, 45] (sC_XM_X g ax am R1 R2 R3 K T SN SZ F G J) (sR_XM_X g ax am R1 R2 R3 K T SN SZ F G J) nd_12 dj_XM_X [12, 13, 14, 15, 16, 17, 18, 19, 20, 21, 22, 23, 24, 25, 26, 27, 28, 29, 30, 31, 32, 33, 34, 35, 36, 37, 38, 39, 40, 41, 42, 43, 44, 45, 0, 1, 2, 3, 4, 5, 6, 7, 8, 9, 10, 11] nd_46p (sP_XM_X g ax am R1 R2 R3 K T SN SZ F G J R1 R2 R3' K' T SN SZ F) (fun H locs hH => ?_)
  refine lv_aload_n hx hb dL_law_1231 rfl (lv_at hl 2 rfl) ?_
  refine aftI (runV C hE hA hH [34, 35, 36, 37, 38, 39, 40, 41, 42, 43, 44, 45] nd_12 (sC_XM_M g ax am R1 R2 R3' K' T SN SZ F G J) (kX6_image l g am _ G J  r G' q2) tw_38_20 tw_38_21 tw_38_22 tw_1_5 tw_38_23 hdX6_image 34 rfl rfl rfl rfl ⟨Nat.le_of_ble_eq_true rfl, Nat.le_of_ble_eq_true rfl⟩ rfl hl.1 (rest := [.int r]) rfl (Nat.le_of_ble_eq_true rfl) dL_law_1232 ⟨Nat.le_of_ble_eq_true rfl, Nat.le_of_ble_eq_true rfl⟩) hA hH [34, 35, 36, 37, 38, 39, 40, 41, 42, 43, 44, 45] [0, 1, 2, 3, 4, 5, 6, 7, 8, 9, 10, 11, 12, 13, 14, 15, 16, 17, 18, 19, 20, 21, 22, 23, 24, 25, 26, 27, 28, 29, 30, 31, 32, 33] (sC_XM_M g ax am R1 R2 R3' K' T SN SZ F G J) (sR_XM_M g ax am R1 R2 R3' K' T SN SZ F G J) nd_34 dj_XM_M [0, 1, 2, 3, 4, 5, 6, 7, 8, 9, 10, 11, 12, 13, 14, 15, 16, 17, 18, 19, 20, 21, 22, 23, 24, 25, 26, 27, 28, 29, 30, 31, 32, 33, 34, 35, 36, 37, 38, 39, 40, 41, 42, 43, 44, 45] nd_46 (sP_XM_M g ax am R1 R2 R3' K' T SN SZ F G J G' J) (fun H locs hH => ?_)
  refine lv_icmp_eq (tgt := 1312) hx hb dL_law_1235 (by decide) (fun _ => ?_) (fun c9 => absurd rfl c9)
  exact kk _ _ _ _ _ _ _ _ _ _ h' _ _ ls hH hl
set_option maxHeartbeats 4000000 in
set_option maxRecDepth 100000 in
theorem lc_undo (hc : Lc p s m meth c b L xs g) (hi : i + 6 ≤ L) (kk : Kk p l e s m below meth c b g ax am i 1312) : Kk p l e s m below meth c b g ax am i 1240 := by
  intro R1 R2 R3 K T SN SZ F G J h H locs ls hH hl
  obtain ⟨C, hE, hX, hbl, hL⟩ := id hc
  obtain ⟨hx, hb, hml, hown, hT, hr, hlk⟩ := id C
  have hA : ∀ q : Nat, s.heap.size ≤ q → aH s q := fun _ q => q
  obtain ⟨r, R1', F', G', q1, q2, h'⟩ := e_undo h 
  refine lv_aload_n hx hb dL_law_1240 rfl (lv_at hl 1 rfl) ?_
  refine aftI (runV C hE hA hH [0, 1, 2, 3, 4, 5, 6, 7, 8, 9, 10, 11, 12, 13, 14, 15, 16, 17, 18, 19, 20, 21, 22, 23, 24, 25, 26, 27, 28, 29, 30, 31, 32, 33] nd_34 (sC_XM_X g ax am R1 R2 R3 K T SN SZ F G J) (kX5_undo l g ax _ R1 R2 R3 K T SN SZ F  r R1' F' q1) tw_39_1 tw_39_2 tw_39_3 tw_1_2 tw_39_4 hdX5_undo 0 rfl rfl rfl rfl ⟨Nat.le_of_ble_eq_true rfl, Nat.le_of_ble_eq_true rfl⟩ rfl hl.1 (rest := []) rfl (Nat.le_of_ble_eq_true rfl) dL_law_1241 ⟨Nat.le_of_ble_eq_true rfl, Nat.le_of_ble_eq_true rfl⟩) hA hH [0, 1, 2, 3, 4, 5, 6, 7, 8, 9, 10, 11, 12, 13, 14, 15, 16, 17, 18, 19, 20, 21, 22, 23, 24, 25, 26, 27, 28, 29, 30, 31, 32, 33] [34, 35, 36, 37, 38, 39, 40, 41, 42, 43, 44, 45] (sC_XM_X g ax am R1 R2 R3 K T SN SZ F G J) (sR_XM_X g ax am R1 R2 R3 K T SN SZ F G J) nd_12 dj_XM_X [12, 13, 14, 15, 16, 17, 18, 19, 20, 21, 22, 23, 24, 25, 26, 27, 28, 29, 30, 31, 32, 33, 34, 35, 36, 37, 38, 39, 40, 41, 42, 43, 44, 45, 0, 1, 2, 3, 4, 5, 6, 7, 8, 9, 10, 11] nd_46p (sP_XM_X g ax am R1 R2 R3 K T SN SZ F G J R1' R2 R3 K T SN SZ F') (fun H locs hH => ?_)
  refine lv_aload_n hx hb dL_law_1244 rfl (lv_at hl 2 rfl) ?_
  refine aftI (runV C hE hA hH [34, 35, 36, 37, 38, 39, 40, 41, 42, 43, 44, 45] nd_12 (sC_XM_M g ax am R1' R2 R3 K T SN SZ F' G J) (kX6_undo l g am _ G J  r G' q2) tw_39_5 tw_39_6 tw_39_7 tw_1_5 tw_39_8 hdX6_undo 34 rfl rfl rfl rfl ⟨Nat.le_of_ble_eq_true rfl, Nat.le_of_ble_eq_true rfl⟩ rfl hl.1 (rest := [.int r]) rfl (Nat.le_of_ble_eq_true rfl) dL_law_1245 ⟨Nat.le_of_ble_eq_true rfl, Nat.le_of_ble_eq_true rfl⟩) hA hH [34, 35, 36, 37, 38, 39, 40, 41, 42, 43, 44, 45] [0, 1, 2, 3, 4, 5, 6, 7, 8, 9, 10, 11, 12, 13, 14, 15, 16, 17, 18, 19, 20, 21, 22, 23, 24, 25, 26, 27, 28, 29, 30, 31, 32, 33] (sC_XM_M g ax am R1' R2 R3 K T SN SZ F' G J) (sR_XM_M g ax am R1' R2 R3 K T SN SZ F' G J) nd_34 dj_XM_M [0, 1, 2, 3, 4, 5, 6, 7, 8, 9, 10, 11, 12, 13, 14, 15, 16, 17, 18, 19, 20, 21, 22, 23, 24, 25, 26, 27, 28, 29, 30, 31, 32, 33, 34, 35, 36, 37, 38, 39, 40, 41, 42, 43, 44, 45] nd_46 (sP_XM_M g ax am R1' R2 R3 K T SN SZ F' G J G' J) (fun H locs hH => ?_)
  refine lv_icmp_eq (tgt := 1312) hx hb dL_law_1248 (by decide) (fun _ => ?_) (fun c9 => absurd rfl c9)
  exact kk _ _ _ _ _ _ _ _ _ _ h' _ _ ls hH hl
set_option maxHeartbeats 4000000 in
set_option maxRecDepth 100000 in
theorem lc_tear (hc : Lc p s m meth c b L xs g) (hi : i + 6 ≤ L) (kk : Kk p l e s m below meth c b g ax am i 1312) : Kk p l e s m below meth c b g ax am i 1253 := by
  intro R1 R2 R3 K T SN SZ F G J h H locs ls hH hl
  obtain ⟨C, hE, hX, hbl, hL⟩ := id hc
  obtain ⟨hx, hb, hml, hown, hT, hr, hlk⟩ := id C
  have hA : ∀ q : Nat, s.heap.size ≤ q → aH s q := fun _ q => q
  obtain ⟨r, K', G', q1, q2, h'⟩ := e_tear h 
  refine lv_aload_n hx hb dL_law_1253 rfl (lv_at hl 1 rfl) ?_
  refine aftI (runV C hE hA hH [0, 1, 2, 3, 4, 5, 6, 7, 8, 9, 10, 11, 12, 13, 14, 15, 16, 17, 18, 19, 20, 21, 22, 23, 24, 25, 26, 27, 28, 29, 30, 31, 32, 33] nd_34 (sC_XM_X g ax am R1 R2 R3 K T SN SZ F G J) (kX5_tear l g ax _ R1 R2 R3 K T SN SZ F  r K' q1) tw_39_9 tw_39_10 tw_39_11 tw_1_2 tw_39_12 hdX5_tear 0 rfl rfl rfl rfl ⟨Nat.le_of_ble_eq_true rfl, Nat.le_of_ble_eq_true rfl⟩ rfl hl.1 (rest := []) rfl (Nat.le_of_ble_eq_true rfl) dL_law_1254 ⟨Nat.le_of_ble_eq_true rfl, Nat.le_of_ble_eq_true rfl⟩) hA hH [0, 1, 2, 3, 4, 5, 6, 7, 8, 9, 10, 11, 12, 13, 14, 15, 16, 17, 18, 19, 20, 21, 22, 23, 24, 25, 26, 27, 28, 29, 30, 31, 32, 33] [34, 35, 36, 37, 38, 39, 40, 41, 42, 43, 44, 45] (sC_XM_X g ax am R1 R2 R3 K T SN SZ F G J) (sR_XM_X g ax am R1 R2 R3 K T SN SZ F G J) nd_12 dj_XM_X [12, 13, 14, 15, 16, 17, 18, 19, 20, 21, 22, 23, 24, 25, 26, 27, 28, 29, 30, 31, 32, 33, 34, 35, 36, 37, 38, 39, 40, 41, 42, 43, 44, 45, 0, 1, 2, 3, 4, 5, 6, 7, 8, 9, 10, 11] nd_46p (sP_XM_X g ax am R1 R2 R3 K T SN SZ F G J R1 R2 R3 K' T SN SZ F) (fun H locs hH => ?_)
  refine lv_aload_n hx hb dL_law_1257 rfl (lv_at hl 2 rfl) ?_
  refine aftI (runV C hE hA hH [34, 35, 36, 37, 38, 39, 40, 41, 42, 43, 44, 45] nd_12 (sC_XM_M g ax am R1 R2 R3 K' T SN SZ F G J) (kX6_tear l g am _ G J  r G' q2) tw_39_13 tw_39_14 tw_39_15 tw_1_5 tw_39_16 hdX6_tear 34 rfl rfl rfl rfl ⟨Nat.le_of_ble_eq_true rfl, Nat.le_of_ble_eq_true rfl⟩ rfl hl.1 (rest := [.int r]) rfl (Nat.le_of_ble_eq_true rfl) dL_law_1258 ⟨Nat.le_of_ble_eq_true rfl, Nat.le_of_ble_eq_true rfl⟩) hA hH [34, 35, 36, 37, 38, 39, 40, 41, 42, 43, 44, 45] [0, 1, 2, 3, 4, 5, 6, 7, 8, 9, 10, 11, 12, 13, 14, 15, 16, 17, 18, 19, 20, 21, 22, 23, 24, 25, 26, 27, 28, 29, 30, 31, 32, 33] (sC_XM_M g ax am R1 R2 R3 K' T SN SZ F G J) (sR_XM_M g ax am R1 R2 R3 K' T SN SZ F G J) nd_34 dj_XM_M [0, 1, 2, 3, 4, 5, 6, 7, 8, 9, 10, 11, 12, 13, 14, 15, 16, 17, 18, 19, 20, 21, 22, 23, 24, 25, 26, 27, 28, 29, 30, 31, 32, 33, 34, 35, 36, 37, 38, 39, 40, 41, 42, 43, 44, 45] nd_46 (sP_XM_M g ax am R1 R2 R3 K' T SN SZ F G J G' J) (fun H locs hH => ?_)
  refine lv_icmp_eq (tgt := 1312) hx hb dL_law_1261 (by decide) (fun _ => ?_) (fun c9 => absurd rfl c9)
  exact kk _ _ _ _ _ _ _ _ _ _ h' _ _ ls hH hl
set_option maxHeartbeats 4000000 in
set_option maxRecDepth 100000 in
theorem lc_count (hc : Lc p s m meth c b L xs g) (hi : i + 6 ≤ L) (kk : Kk p l e s m below meth c b g ax am i 1312) : Kk p l e s m below meth c b g ax am i 1266 := by
  intro R1 R2 R3 K T SN SZ F G J h H locs ls hH hl
  obtain ⟨C, hE, hX, hbl, hL⟩ := id hc
  obtain ⟨hx, hb, hml, hown, hT, hr, hlk⟩ := id C
  have hA : ∀ q : Nat, s.heap.size ≤ q → aH s q := fun _ q => q
  obtain ⟨r, F', G', q1, q2, h'⟩ := e_count h (xs (i + 1))
  refine lv_aload_n hx hb dL_law_1266 rfl (lv_at hl 1 rfl) ?_
  refine lw_arg hc hH hl 1 (by omega) rfl dL_law_1267 dL_law_1268 dL_law_1269 dL_law_1270 dL_law_1271 ?_
  refine aftI (runV C hE hA hH [0, 1, 2, 3, 4, 5, 6, 7, 8, 9, 10, 11, 12, 13, 14, 15, 16, 17, 18, 19, 20, 21, 22, 23, 24, 25, 26, 27, 28, 29, 30, 31, 32, 33] nd_34 (sC_XM_X g ax am R1 R2 R3 K T SN SZ F G J) (kX5_count l g ax _ R1 R2 R3 K T SN SZ F (xs (i + 1)) r F' q1) tw_39_17 tw_39_18 tw_39_19 tw_1_2 tw_39_20 hdX5_count 0 rfl rfl rfl rfl ⟨Nat.le_of_ble_eq_true rfl, Nat.le_of_ble_eq_true rfl⟩ rfl hl.1 (rest := []) rfl (Nat.le_of_ble_eq_true rfl) dL_law_1272 ⟨Nat.le_of_ble_eq_true rfl, Nat.le_of_ble_eq_true rfl⟩) hA hH [0, 1, 2, 3, 4, 5, 6, 7, 8, 9, 10, 11, 12, 13, 14, 15, 16, 17, 18, 19, 20, 21, 22, 23, 24, 25, 26, 27, 28, 29, 30, 31, 32, 33] [34, 35, 36, 37, 38, 39, 40, 41, 42, 43, 44, 45] (sC_XM_X g ax am R1 R2 R3 K T SN SZ F G J) (sR_XM_X g ax am R1 R2 R3 K T SN SZ F G J) nd_12 dj_XM_X [12, 13, 14, 15, 16, 17, 18, 19, 20, 21, 22, 23, 24, 25, 26, 27, 28, 29, 30, 31, 32, 33, 34, 35, 36, 37, 38, 39, 40, 41, 42, 43, 44, 45, 0, 1, 2, 3, 4, 5, 6, 7, 8, 9, 10, 11] nd_46p (sP_XM_X g ax am R1 R2 R3 K T SN SZ F G J R1 R2 R3 K T SN SZ F') (fun H locs hH => ?_)
  refine lv_aload_n hx hb dL_law_1275 rfl (lv_at hl 2 rfl) ?_
  refine lw_arg hc hH hl 1 (by omega) rfl dL_law_1276 dL_law_1277 dL_law_1278 dL_law_1279 dL_law_1280 ?_
  refine aftI (runV C hE hA hH [34, 35, 36, 37, 38, 39, 40, 41, 42, 43, 44, 45] nd_12 (sC_XM_M g ax am R1 R2 R3 K T SN SZ F' G J) (kX6_count l g am _ G J (xs (i + 1)) r G' q2) tw_40_2 tw_40_3 tw_40_4 tw_1_5 tw_40_5 hdX6_count 34 rfl rfl rfl rfl ⟨Nat.le_of_ble_eq_true rfl, Nat.le_of_ble_eq_true rfl⟩ rfl hl.1 (rest := [.int r]) rfl (Nat.le_of_ble_eq_true rfl) dL_law_1281 ⟨Nat.le_of_ble_eq_true rfl, Nat.le_of_ble_eq_true rfl⟩) hA hH [34, 35, 36, 37, 38, 39, 40, 41, 42, 43, 44, 45] [0, 1, 2, 3, 4, 5, 6, 7, 8, 9, 10, 11, 12, 13, 14, 15, 16, 17, 18, 19, 20, 21, 22, 23, 24, 25, 26, 27, 28, 29, 30, 31, 32, 33] (sC_XM_M g ax am R1 R2 R3 K T SN SZ F' G J) (sR_XM_M g ax am R1 R2 R3 K T SN SZ F' G J) nd_34 dj_XM_M [0, 1, 2, 3, 4, 5, 6, 7, 8, 9, 10, 11, 12, 13, 14, 15, 16, 17, 18, 19, 20, 21, 22, 23, 24, 25, 26, 27, 28, 29, 30, 31, 32, 33, 34, 35, 36, 37, 38, 39, 40, 41, 42, 43, 44, 45] nd_46 (sP_XM_M g ax am R1 R2 R3 K T SN SZ F' G J G' J) (fun H locs hH => ?_)
  refine lv_icmp_eq (tgt := 1312) hx hb dL_law_1284 (by decide) (fun _ => ?_) (fun c9 => absurd rfl c9)
  exact kk _ _ _ _ _ _ _ _ _ _ h' _ _ ls hH hl
set_option maxHeartbeats 4000000 in
set_option maxRecDepth 100000 in
theorem lc_status (hc : Lc p s m meth c b L xs g) (hi : i + 6 ≤ L) (kk : Kk p l e s m below meth c b g ax am i 1312) : Kk p l e s m below meth c b g ax am i 1289 := by
  intro R1 R2 R3 K T SN SZ F G J h H locs ls hH hl
  obtain ⟨C, hE, hX, hbl, hL⟩ := id hc
  obtain ⟨hx, hb, hml, hown, hT, hr, hlk⟩ := id C
  have hA : ∀ q : Nat, s.heap.size ≤ q → aH s q := fun _ q => q
  obtain ⟨r, F', G', q1, q2, h'⟩ := e_status h (xs (i + 1))
  refine lv_aload_n hx hb dL_law_1289 rfl (lv_at hl 1 rfl) ?_
  refine lw_arg hc hH hl 1 (by omega) rfl dL_law_1290 dL_law_1291 dL_law_1292 dL_law_1293 dL_law_1294 ?_
  refine aftI (runV C hE hA hH [0, 1, 2, 3, 4, 5, 6, 7, 8, 9, 10, 11, 12, 13, 14, 15, 16, 17, 18, 19, 20, 21, 22, 23, 24, 25, 26, 27, 28, 29, 30, 31, 32, 33] nd_34 (sC_XM_X g ax am R1 R2 R3 K T SN SZ F G J) (kX5_status l g ax _ R1 R2 R3 K T SN SZ F (xs (i + 1)) r F' q1) tw_40_10 tw_40_11 tw_40_12 tw_1_2 tw_40_13 hdX5_status 0 rfl rfl rfl rfl ⟨Nat.le_of_ble_eq_true rfl, Nat.le_of_ble_eq_true rfl⟩ rfl hl.1 (rest := []) rfl (Nat.le_of_ble_eq_true rfl) dL_law_1295 ⟨Nat.le_of_ble_eq_true rfl, Nat.le_of_ble_eq_true rfl⟩) hA hH [0, 1, 2, 3, 4, 5, 6, 7, 8, 9, 10, 11, 12, 13, 14, 15, 16, 17, 18, 19, 20, 21, 22, 23, 24, 25, 26, 27, 28, 29, 30, 31, 32, 33] [34, 35, 36, 37, 38, 39, 40, 41, 42, 43, 44, 45] (sC_XM_X g ax am R1 R2 R3 K T SN SZ F G J) (sR_XM_X g ax am R1 R2 R3 K T SN SZ F G J) nd_12 dj_XM_X [12, 13, 14, 15, 16, 17, 18, 19, 20, 21, 22, 23, 24, 25, 26, 27, 28, 29, 30, 31, 32, 33, 34, 35, 36, 37, 38, 39, 40, 41, 42, 43, 44, 45, 0, 1, 2, 3, 4, 5, 6, 7, 8, 9, 10, 11] nd_46p (sP_XM_X g ax am R1 R2 R3 K T SN SZ F G J R1 R2 R3 K T SN SZ F') (fun H locs hH => ?_)
  refine lv_aload_n hx hb dL_law_1298 rfl (lv_at hl 2 rfl) ?_
  refine lw_arg hc hH hl 1 (by omega) rfl dL_law_1299 dL_law_1300 dL_law_1301 dL_law_1302 dL_law_1303 ?_
  refine aftI (runV C hE hA hH [34, 35, 36, 37, 38, 39, 40, 41, 42, 43, 44, 45] nd_12 (sC_XM_M g ax am R1 R2 R3 K T SN SZ F' G J) (kX6_status l g am _ G J (xs (i + 1)) r G' q2) tw_40_14 tw_40_15 tw_40_16 tw_1_5 tw_40_17 hdX6_status 34 rfl rfl rfl rfl ⟨Nat.le_of_ble_eq_true rfl, Nat.le_of_ble_eq_true rfl⟩ rfl hl.1 (rest := [.int r]) rfl (Nat.le_of_ble_eq_true rfl) dL_law_1304 ⟨Nat.le_of_ble_eq_true rfl, Nat.le_of_ble_eq_true rfl⟩) hA hH [34, 35, 36, 37, 38, 39, 40, 41, 42, 43, 44, 45] [0, 1, 2, 3, 4, 5, 6, 7, 8, 9, 10, 11, 12, 13, 14, 15, 16, 17, 18, 19, 20, 21, 22, 23, 24, 25, 26, 27, 28, 29, 30, 31, 32, 33] (sC_XM_M g ax am R1 R2 R3 K T SN SZ F' G J) (sR_XM_M g ax am R1 R2 R3 K T SN SZ F' G J) nd_34 dj_XM_M [0, 1, 2, 3, 4, 5, 6, 7, 8, 9, 10, 11, 12, 13, 14, 15, 16, 17, 18, 19, 20, 21, 22, 23, 24, 25, 26, 27, 28, 29, 30, 31, 32, 33, 34, 35, 36, 37, 38, 39, 40, 41, 42, 43, 44, 45] nd_46 (sP_XM_M g ax am R1 R2 R3 K T SN SZ F' G J G' J) (fun H locs hH => ?_)
  refine lv_icmp_eq (tgt := 1312) hx hb dL_law_1307 (by decide) (fun _ => ?_) (fun c9 => absurd rfl c9)
  exact kk _ _ _ _ _ _ _ _ _ _ h' _ _ ls hH hl
end LB
