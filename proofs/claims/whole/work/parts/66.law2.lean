section LB
variable {p : Program} {l : Launch} {e : Env} {s : State} {m : MethodId} {below : List Frame} {meth : Method} {c : Code} {b L : Nat} {xs : Nat → Int32} {g : Gl} {i : Nat} {ax am : Nat → Nat}
set_option maxHeartbeats 4000000 in
set_option maxRecDepth 100000 in
theorem lc_relief (hc : Lc p s m meth c b L xs g) (hi : i + 6 ≤ L) (kk : Kk p l e s m below meth c b g ax am i 1312) : Kk p l e s m below meth c b g ax am i 623 := by
  intro R1 R2 R3 K T SN SZ F G J h H locs ls hH hl
  obtain ⟨C, hE, hX, hbl, hL⟩ := id hc
  obtain ⟨hx, hb, hml, hown, hT, hr, hlk⟩ := id C
  have hA : ∀ q : Nat, s.heap.size ≤ q → aH s q := fun _ q => q
  obtain ⟨r, F', G', q1, q2, h'⟩ := e_relief h 
  refine lv_aload_n hx hb dL_law_623 rfl (lv_at hl 1 rfl) ?_
  refine aftI (runV C hE hA hH [0, 1, 2, 3, 4, 5, 6, 7, 8, 9, 10, 11, 12, 13, 14, 15, 16, 17, 18, 19, 20, 21, 22, 23, 24, 25, 26, 27, 28, 29, 30, 31, 32, 33] nd_34 (sC_XM_X g ax am R1 R2 R3 K T SN SZ F G J) (kX5_relief l g ax _ R1 R2 R3 K T SN SZ F  r F' q1) tw_19_18 tw_19_19 tw_19_20 tw_1_2 tw_19_21 hdX5_relief 0 rfl rfl rfl rfl ⟨Nat.le_of_ble_eq_true rfl, Nat.le_of_ble_eq_true rfl⟩ rfl hl.1 (rest := []) rfl (Nat.le_of_ble_eq_true rfl) dL_law_624 ⟨Nat.le_of_ble_eq_true rfl, Nat.le_of_ble_eq_true rfl⟩) hA hH [0, 1, 2, 3, 4, 5, 6, 7, 8, 9, 10, 11, 12, 13, 14, 15, 16, 17, 18, 19, 20, 21, 22, 23, 24, 25, 26, 27, 28, 29, 30, 31, 32, 33] [34, 35, 36, 37, 38, 39, 40, 41, 42, 43, 44, 45] (sC_XM_X g ax am R1 R2 R3 K T SN SZ F G J) (sR_XM_X g ax am R1 R2 R3 K T SN SZ F G J) nd_12 dj_XM_X [12, 13, 14, 15, 16, 17, 18, 19, 20, 21, 22, 23, 24, 25, 26, 27, 28, 29, 30, 31, 32, 33, 34, 35, 36, 37, 38, 39, 40, 41, 42, 43, 44, 45, 0, 1, 2, 3, 4, 5, 6, 7, 8, 9, 10, 11] nd_46p (sP_XM_X g ax am R1 R2 R3 K T SN SZ F G J R1 R2 R3 K T SN SZ F') (fun H locs hH => ?_)
  refine lv_aload_n hx hb dL_law_627 rfl (lv_at hl 2 rfl) ?_
  refine aftI (runV C hE hA hH [34, 35, 36, 37, 38, 39, 40, 41, 42, 43, 44, 45] nd_12 (sC_XM_M g ax am R1 R2 R3 K T SN SZ F' G J) (kX6_relief l g am _ G J  r G' q2) tw_20_4 tw_20_5 tw_20_6 tw_1_5 tw_20_7 hdX6_relief 34 rfl rfl rfl rfl ⟨Nat.le_of_ble_eq_true rfl, Nat.le_of_ble_eq_true rfl⟩ rfl hl.1 (rest := [.int r]) rfl (Nat.le_of_ble_eq_true rfl) dL_law_628 ⟨Nat.le_of_ble_eq_true rfl, Nat.le_of_ble_eq_true rfl⟩) hA hH [34, 35, 36, 37, 38, 39, 40, 41, 42, 43, 44, 45] [0, 1, 2, 3, 4, 5, 6, 7, 8, 9, 10, 11, 12, 13, 14, 15, 16, 17, 18, 19, 20, 21, 22, 23, 24, 25, 26, 27, 28, 29, 30, 31, 32, 33] (sC_XM_M g ax am R1 R2 R3 K T SN SZ F' G J) (sR_XM_M g ax am R1 R2 R3 K T SN SZ F' G J) nd_34 dj_XM_M [0, 1, 2, 3, 4, 5, 6, 7, 8, 9, 10, 11, 12, 13, 14, 15, 16, 17, 18, 19, 20, 21, 22, 23, 24, 25, 26, 27, 28, 29, 30, 31, 32, 33, 34, 35, 36, 37, 38, 39, 40, 41, 42, 43, 44, 45] nd_46 (sP_XM_M g ax am R1 R2 R3 K T SN SZ F' G J G' J) (fun H locs hH => ?_)
  refine lv_icmp_eq (tgt := 1312) hx hb dL_law_631 (by decide) (fun _ => ?_) (fun c9 => absurd rfl c9)
  exact kk _ _ _ _ _ _ _ _ _ _ h' _ _ ls hH hl
set_option maxHeartbeats 4000000 in
set_option maxRecDepth 100000 in
theorem lc_ashore (hc : Lc p s m meth c b L xs g) (hi : i + 6 ≤ L) (kk : Kk p l e s m below meth c b g ax am i 1312) : Kk p l e s m below meth c b g ax am i 636 := by
  intro R1 R2 R3 K T SN SZ F G J h H locs ls hH hl
  obtain ⟨C, hE, hX, hbl, hL⟩ := id hc
  obtain ⟨hx, hb, hml, hown, hT, hr, hlk⟩ := id C
  have hA : ∀ q : Nat, s.heap.size ≤ q → aH s q := fun _ q => q
  obtain ⟨r, R2', F', G', q1, q2, h'⟩ := e_ashore h (xs (i + 1))
  refine lv_aload_n hx hb dL_law_636 rfl (lv_at hl 1 rfl) ?_
  refine lw_arg hc hH hl 1 (by omega) rfl dL_law_637 dL_law_638 dL_law_639 dL_law_640 dL_law_641 ?_
  refine aftI (runV C hE hA hH [0, 1, 2, 3, 4, 5, 6, 7, 8, 9, 10, 11, 12, 13, 14, 15, 16, 17, 18, 19, 20, 21, 22, 23, 24, 25, 26, 27, 28, 29, 30, 31, 32, 33] nd_34 (sC_XM_X g ax am R1 R2 R3 K T SN SZ F G J) (kX5_ashore l g ax _ R1 R2 R3 K T SN SZ F (xs (i + 1)) r R2' F' q1) tw_20_13 tw_20_14 tw_20_15 tw_1_2 tw_20_16 hdX5_ashore 0 rfl rfl rfl rfl ⟨Nat.le_of_ble_eq_true rfl, Nat.le_of_ble_eq_true rfl⟩ rfl hl.1 (rest := []) rfl (Nat.le_of_ble_eq_true rfl) dL_law_642 ⟨Nat.le_of_ble_eq_true rfl, Nat.le_of_ble_eq_true rfl⟩) hA hH [0, 1, 2, 3, 4, 5, 6, 7, 8, 9, 10, 11, 12, 13, 14, 15, 16, 17, 18, 19, 20, 21, 22, 23, 24, 25, 26, 27, 28, 29, 30, 31, 32, 33] [34, 35, 36, 37, 38, 39, 40, 41, 42, 43, 44, 45] (sC_XM_X g ax am R1 R2 R3 K T SN SZ F G J) (sR_XM_X g ax am R1 R2 R3 K T SN SZ F G J) nd_12 dj_XM_X [12, 13, 14, 15, 16, 17, 18, 19, 20, 21, 22, 23, 24, 25, 26, 27, 28, 29, 30, 31, 32, 33, 34, 35, 36, 37, 38, 39, 40, 41, 42, 43, 44, 45, 0, 1, 2, 3, 4, 5, 6, 7, 8, 9, 10, 11] nd_46p (sP_XM_X g ax am R1 R2 R3 K T SN SZ F G J R1 R2' R3 K T SN SZ F') (fun H locs hH => ?_)
  refine lv_aload_n hx hb dL_law_645 rfl (lv_at hl 2 rfl) ?_
  refine lw_arg hc hH hl 1 (by omega) rfl dL_law_646 dL_law_647 dL_law_648 dL_law_649 dL_law_650 ?_
  refine aftI (runV C hE hA hH [34, 35, 36, 37, 38, 39, 40, 41, 42, 43, 44, 45] nd_12 (sC_XM_M g ax am R1 R2' R3 K T SN SZ F' G J) (kX6_ashore l g am _ G J (xs (i + 1)) r G' q2) tw_20_18 tw_20_19 tw_20_20 tw_1_5 tw_20_21 hdX6_ashore 34 rfl rfl rfl rfl ⟨Nat.le_of_ble_eq_true rfl, Nat.le_of_ble_eq_true rfl⟩ rfl hl.1 (rest := [.int r]) rfl (Nat.le_of_ble_eq_true rfl) dL_law_651 ⟨Nat.le_of_ble_eq_true rfl, Nat.le_of_ble_eq_true rfl⟩) hA hH [34, 35, 36, 37, 38, 39, 40, 41, 42, 43, 44, 45] [0, 1, 2, 3, 4, 5, 6, 7, 8, 9, 10, 11, 12, 13, 14, 15, 16, 17, 18, 19, 20, 21, 22, 23, 24, 25, 26, 27, 28, 29, 30, 31, 32, 33] (sC_XM_M g ax am R1 R2' R3 K T SN SZ F' G J) (sR_XM_M g ax am R1 R2' R3 K T SN SZ F' G J) nd_34 dj_XM_M [0, 1, 2, 3, 4, 5, 6, 7, 8, 9, 10, 11, 12, 13, 14, 15, 16, 17, 18, 19, 20, 21, 22, 23, 24, 25, 26, 27, 28, 29, 30, 31, 32, 33, 34, 35, 36, 37, 38, 39, 40, 41, 42, 43, 44, 45] nd_46 (sP_XM_M g ax am R1 R2' R3 K T SN SZ F' G J G' J) (fun H locs hH => ?_)
  refine lv_icmp_eq (tgt := 1312) hx hb dL_law_654 (by decide) (fun _ => ?_) (fun c9 => absurd rfl c9)
  exact kk _ _ _ _ _ _ _ _ _ _ h' _ _ ls hH hl
set_option maxHeartbeats 4000000 in
set_option maxRecDepth 100000 in
theorem lc_knows (hc : Lc p s m meth c b L xs g) (hi : i + 6 ≤ L) (kk : Kk p l e s m below meth c b g ax am i 1312) : Kk p l e s m below meth c b g ax am i 659 := by
  intro R1 R2 R3 K T SN SZ F G J h H locs ls hH hl
  obtain ⟨C, hE, hX, hbl, hL⟩ := id hc
  obtain ⟨hx, hb, hml, hown, hT, hr, hlk⟩ := id C
  have hA : ∀ q : Nat, s.heap.size ≤ q → aH s q := fun _ q => q
  obtain ⟨r, R2', F', G', q1, q2, h'⟩ := e_knows h (xs (i + 1)) (xs (i + 2))
  refine lv_aload_n hx hb dL_law_659 rfl (lv_at hl 1 rfl) ?_
  refine lw_arg hc hH hl 1 (by omega) rfl dL_law_660 dL_law_661 dL_law_662 dL_law_663 dL_law_664 ?_
  refine lw_arg hc hH hl 2 (by omega) rfl dL_law_665 dL_law_666 dL_law_667 dL_law_668 dL_law_669 ?_
  refine aftI (runV C hE hA hH [0, 1, 2, 3, 4, 5, 6, 7, 8, 9, 10, 11, 12, 13, 14, 15, 16, 17, 18, 19, 20, 21, 22, 23, 24, 25, 26, 27, 28, 29, 30, 31, 32, 33] nd_34 (sC_XM_X g ax am R1 R2 R3 K T SN SZ F G J) (kX5_knows l g ax _ R1 R2 R3 K T SN SZ F (xs (i + 1)) (xs (i + 2)) r R2' F' q1) tw_20_22 tw_20_23 tw_21_0 tw_1_2 tw_21_1 hdX5_knows 0 rfl rfl rfl rfl ⟨Nat.le_of_ble_eq_true rfl, Nat.le_of_ble_eq_true rfl⟩ rfl hl.1 (rest := []) rfl (Nat.le_of_ble_eq_true rfl) dL_law_670 ⟨Nat.le_of_ble_eq_true rfl, Nat.le_of_ble_eq_true rfl⟩) hA hH [0, 1, 2, 3, 4, 5, 6, 7, 8, 9, 10, 11, 12, 13, 14, 15, 16, 17, 18, 19, 20, 21, 22, 23, 24, 25, 26, 27, 28, 29, 30, 31, 32, 33] [34, 35, 36, 37, 38, 39, 40, 41, 42, 43, 44, 45] (sC_XM_X g ax am R1 R2 R3 K T SN SZ F G J) (sR_XM_X g ax am R1 R2 R3 K T SN SZ F G J) nd_12 dj_XM_X [12, 13, 14, 15, 16, 17, 18, 19, 20, 21, 22, 23, 24, 25, 26, 27, 28, 29, 30, 31, 32, 33, 34, 35, 36, 37, 38, 39, 40, 41, 42, 43, 44, 45, 0, 1, 2, 3, 4, 5, 6, 7, 8, 9, 10, 11] nd_46p (sP_XM_X g ax am R1 R2 R3 K T SN SZ F G J R1 R2' R3 K T SN SZ F') (fun H locs hH => ?_)
  refine lv_aload_n hx hb dL_law_673 rfl (lv_at hl 2 rfl) ?_
  refine lw_arg hc hH hl 1 (by omega) rfl dL_law_674 dL_law_675 dL_law_676 dL_law_677 dL_law_678 ?_
  refine lw_arg hc hH hl 2 (by omega) rfl dL_law_679 dL_law_680 dL_law_681 dL_law_682 dL_law_683 ?_
  refine aftI (runV C hE hA hH [34, 35, 36, 37, 38, 39, 40, 41, 42, 43, 44, 45] nd_12 (sC_XM_M g ax am R1 R2' R3 K T SN SZ F' G J) (kX6_knows l g am _ G J (xs (i + 1)) (xs (i + 2)) r G' q2) tw_21_9 tw_21_10 tw_21_11 tw_1_5 tw_21_12 hdX6_knows 34 rfl rfl rfl rfl ⟨Nat.le_of_ble_eq_true rfl, Nat.le_of_ble_eq_true rfl⟩ rfl hl.1 (rest := [.int r]) rfl (Nat.le_of_ble_eq_true rfl) dL_law_684 ⟨Nat.le_of_ble_eq_true rfl, Nat.le_of_ble_eq_true rfl⟩) hA hH [34, 35, 36, 37, 38, 39, 40, 41, 42, 43, 44, 45] [0, 1, 2, 3, 4, 5, 6, 7, 8, 9, 10, 11, 12, 13, 14, 15, 16, 17, 18, 19, 20, 21, 22, 23, 24, 25, 26, 27, 28, 29, 30, 31, 32, 33] (sC_XM_M g ax am R1 R2' R3 K T SN SZ F' G J) (sR_XM_M g ax am R1 R2' R3 K T SN SZ F' G J) nd_34 dj_XM_M [0, 1, 2, 3, 4, 5, 6, 7, 8, 9, 10, 11, 12, 13, 14, 15, 16, 17, 18, 19, 20, 21, 22, 23, 24, 25, 26, 27, 28, 29, 30, 31, 32, 33, 34, 35, 36, 37, 38, 39, 40, 41, 42, 43, 44, 45] nd_46 (sP_XM_M g ax am R1 R2' R3 K T SN SZ F' G J G' J) (fun H locs hH => ?_)
  refine lv_icmp_eq (tgt := 1312) hx hb dL_law_687 (by decide) (fun _ => ?_) (fun c9 => absurd rfl c9)
  exact kk _ _ _ _ _ _ _ _ _ _ h' _ _ ls hH hl
set_option maxHeartbeats 4000000 in
set_option maxRecDepth 100000 in
theorem lc_dark (hc : Lc p s m meth c b L xs g) (hi : i + 6 ≤ L) (kk : Kk p l e s m below meth c b g ax am i 1312) : Kk p l e s m below meth c b g ax am i 692 := by
  intro R1 R2 R3 K T SN SZ F G J h H locs ls hH hl
  obtain ⟨C, hE, hX, hbl, hL⟩ := id hc
  obtain ⟨hx, hb, hml, hown, hT, hr, hlk⟩ := id C
  have hA : ∀ q : Nat, s.heap.size ≤ q → aH s q := fun _ q => q
  obtain ⟨r, R2', F', G', q1, q2, h'⟩ := e_dark h 
  refine lv_aload_n hx hb dL_law_692 rfl (lv_at hl 1 rfl) ?_
  refine aftI (runV C hE hA hH [0, 1, 2, 3, 4, 5, 6, 7, 8, 9, 10, 11, 12, 13, 14, 15, 16, 17, 18, 19, 20, 21, 22, 23, 24, 25, 26, 27, 28, 29, 30, 31, 32, 33] nd_34 (sC_XM_X g ax am R1 R2 R3 K T SN SZ F G J) (kX5_dark l g ax _ R1 R2 R3 K T SN SZ F  r R2' F' q1) tw_21_13 tw_21_14 tw_21_15 tw_1_2 tw_21_16 hdX5_dark 0 rfl rfl rfl rfl ⟨Nat.le_of_ble_eq_true rfl, Nat.le_of_ble_eq_true rfl⟩ rfl hl.1 (rest := []) rfl (Nat.le_of_ble_eq_true rfl) dL_law_693 ⟨Nat.le_of_ble_eq_true rfl, Nat.le_of_ble_eq_true rfl⟩) hA hH [0, 1, 2, 3, 4, 5, 6, 7, 8, 9, 10, 11, 12, 13, 14, 15, 16, 17, 18, 19, 20, 21, 22, 23, 24, 25, 26, 27, 28, 29, 30, 31, 32, 33] [34, 35, 36, 37, 38, 39, 40, 41, 42, 43, 44, 45] (sC_XM_X g ax am R1 R2 R3 K T SN SZ F G J) (sR_XM_X g ax am R1 R2 R3 K T SN SZ F G J) nd_12 dj_XM_X [12, 13, 14, 15, 16, 17, 18, 19, 20, 21, 22, 23, 24, 25, 26, 27, 28, 29, 30, 31, 32, 33, 34, 35, 36, 37, 38, 39, 40, 41, 42, 43, 44, 45, 0, 1, 2, 3, 4, 5, 6, 7, 8, 9, 10, 11] nd_46p (sP_XM_X g ax am R1 R2 R3 K T SN SZ F G J R1 R2' R3 K T SN SZ F') (fun H locs hH => ?_)
  refine lv_aload_n hx hb dL_law_696 rfl (lv_at hl 2 rfl) ?_
  refine aftI (runV C hE hA hH [34, 35, 36, 37, 38, 39, 40, 41, 42, 43, 44, 45] nd_12 (sC_XM_M g ax am R1 R2' R3 K T SN SZ F' G J) (kX6_dark l g am _ G J  r G' q2) tw_21_17 tw_21_18 tw_21_19 tw_1_5 tw_21_20 hdX6_dark 34 rfl rfl rfl rfl ⟨Nat.le_of_ble_eq_true rfl, Nat.le_of_ble_eq_true rfl⟩ rfl hl.1 (rest := [.int r]) rfl (Nat.le_of_ble_eq_true rfl) dL_law_697 ⟨Nat.le_of_ble_eq_true rfl, Nat.le_of_ble_eq_true rfl⟩) hA hH [34, 35, 36, 37, 38, 39, 40, 41, 42, 43, 44, 45] [0, 1, 2, 3, 4, 5, 6, 7, 8, 9, 10, 11, 12, 13, 14, 15, 16, 17, 18, 19, 20, 21, 22, 23, 24, 25, 26, 27, 28, 29, 30, 31, 32, 33] (sC_XM_M g ax am R1 R2' R3 K T SN SZ F' G J) (sR_XM_M g ax am R1 R2' R3 K T SN SZ F' G J) nd_34 dj_XM_M [0, 1, 2, 3, 4, 5, 6, 7, 8, 9, 10, 11, 12, 13, 14, 15, 16, 17, 18, 19, 20, 21, 22, 23, 24, 25, 26, 27, 28, 29, 30, 31, 32, 33, 34, 35, 36, 37, 38, 39, 40, 41, 42, 43, 44, 45] nd_46 (sP_XM_M g ax am R1 R2' R3 K T SN SZ F' G J G' J) (fun H locs hH => ?_)
  refine lv_icmp_eq (tgt := 1312) hx hb dL_law_700 (by decide) (fun _ => ?_) (fun c9 => absurd rfl c9)
  exact kk _ _ _ _ _ _ _ _ _ _ h' _ _ ls hH hl
set_option maxHeartbeats 4000000 in
set_option maxRecDepth 100000 in
theorem lc_meet (hc : Lc p s m meth c b L xs g) (hi : i + 6 ≤ L) (kk : Kk p l e s m below meth c b g ax am i 1312) : Kk p l e s m below meth c b g ax am i 705 := by
  intro R1 R2 R3 K T SN SZ F G J h H locs ls hH hl
  obtain ⟨C, hE, hX, hbl, hL⟩ := id hc
  obtain ⟨hx, hb, hml, hown, hT, hr, hlk⟩ := id C
  have hA : ∀ q : Nat, s.heap.size ≤ q → aH s q := fun _ q => q
  obtain ⟨r, R2', F', G', q1, q2, h'⟩ := e_meet h (xs (i + 1)) (xs (i + 2))
  refine lv_aload_n hx hb dL_law_705 rfl (lv_at hl 1 rfl) ?_
  refine lw_arg hc hH hl 1 (by omega) rfl dL_law_706 dL_law_707 dL_law_708 dL_law_709 dL_law_710 ?_
  refine lw_arg hc hH hl 2 (by omega) rfl dL_law_711 dL_law_712 dL_law_713 dL_law_714 dL_law_715 ?_
  refine aftI (runV C hE hA hH [0, 1, 2, 3, 4, 5, 6, 7, 8, 9, 10, 11, 12, 13, 14, 15, 16, 17, 18, 19, 20, 21, 22, 23, 24, 25, 26, 27, 28, 29, 30, 31, 32, 33] nd_34 (sC_XM_X g ax am R1 R2 R3 K T SN SZ F G J) (kX5_meet l g ax _ R1 R2 R3 K T SN SZ F (xs (i + 1)) (xs (i + 2)) r R2' F' q1) tw_21_21 tw_21_22 tw_21_23 tw_1_2 tw_22_0 hdX5_meet 0 rfl rfl rfl rfl ⟨Nat.le_of_ble_eq_true rfl, Nat.le_of_ble_eq_true rfl⟩ rfl hl.1 (rest := []) rfl (Nat.le_of_ble_eq_true rfl) dL_law_716 ⟨Nat.le_of_ble_eq_true rfl, Nat.le_of_ble_eq_true rfl⟩) hA hH [0, 1, 2, 3, 4, 5, 6, 7, 8, 9, 10, 11, 12, 13, 14, 15, 16, 17, 18, 19, 20, 21, 22, 23, 24, 25, 26, 27, 28, 29, 30, 31, 32, 33] [34, 35, 36, 37, 38, 39, 40, 41, 42, 43, 44, 45] (sC_XM_X g ax am R1 R2 R3 K T SN SZ F G J) (sR_XM_X g ax am R1 R2 R3 K T SN SZ F G J) nd_12 dj_XM_X [12, 13, 14, 15, 16, 17, 18, 19, 20, 21, 22, 23, 24, 25, 26, 27, 28, 29, 30, 31, 32, 33, 34, 35, 36, 37, 38, 39, 40, 41, 42, 43, 44, 45, 0, 1, 2, 3, 4, 5, 6, 7, 8, 9, 10, 11] nd_46p (sP_XM_X g ax am R1 R2 R3 K T SN SZ F G J R1 R2' R3 K T SN SZ F') (fun H locs hH => ?_)
  refine lv_aload_n hx hb dL_law_719 rfl (lv_at hl 2 rfl) ?_
  refine lw_arg hc hH hl 1 (by omega) rfl dL_law_720 dL_law_721 dL_law_722 dL_law_723 dL_law_724 ?_
  refine lw_arg hc hH hl 2 (by omega) rfl dL_law_725 dL_law_726 dL_law_727 dL_law_728 dL_law_729 ?_
  refine aftI (runV C hE hA hH [34, 35, 36, 37, 38, 39, 40, 41, 42, 43, 44, 45] nd_12 (sC_XM_M g ax am R1 R2' R3 K T SN SZ F' G J) (kX6_meet l g am _ G J (xs (i + 1)) (xs (i + 2)) r G' q2) tw_22_5 tw_22_6 tw_22_7 tw_1_5 tw_22_8 hdX6_meet 34 rfl rfl rfl rfl ⟨Nat.le_of_ble_eq_true rfl, Nat.le_of_ble_eq_true rfl⟩ rfl hl.1 (rest := [.int r]) rfl (Nat.le_of_ble_eq_true rfl) dL_law_730 ⟨Nat.le_of_ble_eq_true rfl, Nat.le_of_ble_eq_true rfl⟩) hA hH [34, 35, 36, 37, 38, 39, 40, 41, 42, 43, 44, 45] [0, 1, 2, 3, 4, 5, 6, 7, 8, 9, 10, 11, 12, 13, 14, 15, 16, 17, 18, 19, 20, 21, 22, 23, 24, 25, 26, 27, 28, 29, 30, 31, 32, 33] (sC_XM_M g ax am R1 R2' R3 K T SN SZ F' G J) (sR_XM_M g ax am R1 R2' R3 K T SN SZ F' G J) nd_34 dj_XM_M [0, 1, 2, 3, 4, 5, 6, 7, 8, 9, 10, 11, 12, 13, 14, 15, 16, 17, 18, 19, 20, 21, 22, 23, 24, 25, 26, 27, 28, 29, 30, 31, 32, 33, 34, 35, 36, 37, 38, 39, 40, 41, 42, 43, 44, 45] nd_46 (sP_XM_M g ax am R1 R2' R3 K T SN SZ F' G J G' J) (fun H locs hH => ?_)
  refine lv_icmp_eq (tgt := 1312) hx hb dL_law_733 (by decide) (fun _ => ?_) (fun c9 => absurd rfl c9)
  exact kk _ _ _ _ _ _ _ _ _ _ h' _ _ ls hH hl
set_option maxHeartbeats 4000000 in
set_option maxRecDepth 100000 in
theorem lc_rock (hc : Lc p s m meth c b L xs g) (hi : i + 6 ≤ L) (kk : Kk p l e s m below meth c b g ax am i 1312) : Kk p l e s m below meth c b g ax am i 738 := by
  intro R1 R2 R3 K T SN SZ F G J h H locs ls hH hl
  obtain ⟨C, hE, hX, hbl, hL⟩ := id hc
  obtain ⟨hx, hb, hml, hown, hT, hr, hlk⟩ := id C
  have hA : ∀ q : Nat, s.heap.size ≤ q → aH s q := fun _ q => q
  obtain ⟨r, R2', F', G', q1, q2, h'⟩ := e_rock h (xs (i + 1))
  refine lv_aload_n hx hb dL_law_738 rfl (lv_at hl 1 rfl) ?_
  refine lw_arg hc hH hl 1 (by omega) rfl dL_law_739 dL_law_740 dL_law_741 dL_law_742 dL_law_743 ?_
  refine aftI (runV C hE hA hH [0, 1, 2, 3, 4, 5, 6, 7, 8, 9, 10, 11, 12, 13, 14, 15, 16, 17, 18, 19, 20, 21, 22, 23, 24, 25, 26, 27, 28, 29, 30, 31, 32, 33] nd_34 (sC_XM_X g ax am R1 R2 R3 K T SN SZ F G J) (kX5_rock l g ax _ R1 R2 R3 K T SN SZ F (xs (i + 1)) r R2' F' q1) tw_22_9 tw_22_10 tw_22_11 tw_1_2 tw_22_12 hdX5_rock 0 rfl rfl rfl rfl ⟨Nat.le_of_ble_eq_true rfl, Nat.le_of_ble_eq_true rfl⟩ rfl hl.1 (rest := []) rfl (Nat.le_of_ble_eq_true rfl) dL_law_744 ⟨Nat.le_of_ble_eq_true rfl, Nat.le_of_ble_eq_true rfl⟩) hA hH [0, 1, 2, 3, 4, 5, 6, 7, 8, 9, 10, 11, 12, 13, 14, 15, 16, 17, 18, 19, 20, 21, 22, 23, 24, 25, 26, 27, 28, 29, 30, 31, 32, 33] [34, 35, 36, 37, 38, 39, 40, 41, 42, 43, 44, 45] (sC_XM_X g ax am R1 R2 R3 K T SN SZ F G J) (sR_XM_X g ax am R1 R2 R3 K T SN SZ F G J) nd_12 dj_XM_X [12, 13, 14, 15, 16, 17, 18, 19, 20, 21, 22, 23, 24, 25, 26, 27, 28, 29, 30, 31, 32, 33, 34, 35, 36, 37, 38, 39, 40, 41, 42, 43, 44, 45, 0, 1, 2, 3, 4, 5, 6, 7, 8, 9, 10, 11] nd_46p (sP_XM_X g ax am R1 R2 R3 K T SN SZ F G J R1 R2' R3 K T SN SZ F') (fun H locs hH => ?_)
  refine lv_aload_n hx hb dL_law_747 rfl (lv_at hl 2 rfl) ?_
  refine lw_arg hc hH hl 1 (by omega) rfl dL_law_748 dL_law_749 dL_law_750 dL_law_751 dL_law_752 ?_
  refine aftI (runV C hE hA hH [34, 35, 36, 37, 38, 39, 40, 41, 42, 43, 44, 45] nd_12 (sC_XM_M g ax am R1 R2' R3 K T SN SZ F' G J) (kX6_rock l g am _ G J (xs (i + 1)) r G' q2) tw_22_13 tw_22_14 tw_22_15 tw_1_5 tw_22_16 hdX6_rock 34 rfl rfl rfl rfl ⟨Nat.le_of_ble_eq_true rfl, Nat.le_of_ble_eq_true rfl⟩ rfl hl.1 (rest := [.int r]) rfl (Nat.le_of_ble_eq_true rfl) dL_law_753 ⟨Nat.le_of_ble_eq_true rfl, Nat.le_of_ble_eq_true rfl⟩) hA hH [34, 35, 36, 37, 38, 39, 40, 41, 42, 43, 44, 45] [0, 1, 2, 3, 4, 5, 6, 7, 8, 9, 10, 11, 12, 13, 14, 15, 16, 17, 18, 19, 20, 21, 22, 23, 24, 25, 26, 27, 28, 29, 30, 31, 32, 33] (sC_XM_M g ax am R1 R2' R3 K T SN SZ F' G J) (sR_XM_M g ax am R1 R2' R3 K T SN SZ F' G J) nd_34 dj_XM_M [0, 1, 2, 3, 4, 5, 6, 7, 8, 9, 10, 11, 12, 13, 14, 15, 16, 17, 18, 19, 20, 21, 22, 23, 24, 25, 26, 27, 28, 29, 30, 31, 32, 33, 34, 35, 36, 37, 38, 39, 40, 41, 42, 43, 44, 45] nd_46 (sP_XM_M g ax am R1 R2' R3 K T SN SZ F' G J G' J) (fun H locs hH => ?_)
  refine lv_icmp_eq (tgt := 1312) hx hb dL_law_756 (by decide) (fun _ => ?_) (fun c9 => absurd rfl c9)
  exact kk _ _ _ _ _ _ _ _ _ _ h' _ _ ls hH hl
set_option maxHeartbeats 4000000 in
set_option maxRecDepth 100000 in
theorem lc_kind (hc : Lc p s m meth c b L xs g) (hi : i + 6 ≤ L) (kk : Kk p l e s m below meth c b g ax am i 1312) : Kk p l e s m below meth c b g ax am i 761 := by
  intro R1 R2 R3 K T SN SZ F G J h H locs ls hH hl
  obtain ⟨C, hE, hX, hbl, hL⟩ := id hc
  obtain ⟨hx, hb, hml, hown, hT, hr, hlk⟩ := id C
  have hA : ∀ q : Nat, s.heap.size ≤ q → aH s q := fun _ q => q
  obtain ⟨r, R2', F', G', q1, q2, h'⟩ := e_kind h (xs (i + 1)) (xs (i + 2))
  refine lv_aload_n hx hb dL_law_761 rfl (lv_at hl 1 rfl) ?_
  refine lw_arg hc hH hl 1 (by omega) rfl dL_law_762 dL_law_763 dL_law_764 dL_law_765 dL_law_766 ?_
  refine lw_arg hc hH hl 2 (by omega) rfl dL_law_767 dL_law_768 dL_law_769 dL_law_770 dL_law_771 ?_
  refine aftI (runV C hE hA hH [0, 1, 2, 3, 4, 5, 6, 7, 8, 9, 10, 11, 12, 13, 14, 15, 16, 17, 18, 19, 20, 21, 22, 23, 24, 25, 26, 27, 28, 29, 30, 31, 32, 33] nd_34 (sC_XM_X g ax am R1 R2 R3 K T SN SZ F G J) (kX5_kind l g ax _ R1 R2 R3 K T SN SZ F (xs (i + 1)) (xs (i + 2)) r R2' F' q1) tw_22_17 tw_22_18 tw_22_19 tw_1_2 tw_22_20 hdX5_kind 0 rfl rfl rfl rfl ⟨Nat.le_of_ble_eq_true rfl, Nat.le_of_ble_eq_true rfl⟩ rfl hl.1 (rest := []) rfl (Nat.le_of_ble_eq_true rfl) dL_law_772 ⟨Nat.le_of_ble_eq_true rfl, Nat.le_of_ble_eq_true rfl⟩) hA hH [0, 1, 2, 3, 4, 5, 6, 7, 8, 9, 10, 11, 12, 13, 14, 15, 16, 17, 18, 19, 20, 21, 22, 23, 24, 25, 26, 27, 28, 29, 30, 31, 32, 33] [34, 35, 36, 37, 38, 39, 40, 41, 42, 43, 44, 45] (sC_XM_X g ax am R1 R2 R3 K T SN SZ F G J) (sR_XM_X g ax am R1 R2 R3 K T SN SZ F G J) nd_12 dj_XM_X [12, 13, 14, 15, 16, 17, 18, 19, 20, 21, 22, 23, 24, 25, 26, 27, 28, 29, 30, 31, 32, 33, 34, 35, 36, 37, 38, 39, 40, 41, 42, 43, 44, 45, 0, 1, 2, 3, 4, 5, 6, 7, 8, 9, 10, 11] nd_46p (sP_XM_X g ax am R1 R2 R3 K T SN SZ F G J R1 R2' R3 K T SN SZ F') (fun H locs hH => ?_)
  refine lv_aload_n hx hb dL_law_775 rfl (lv_at hl 2 rfl) ?_
  refine lw_arg hc hH hl 1 (by omega) rfl dL_law_776 dL_law_777 dL_law_778 dL_law_779 dL_law_780 ?_
  refine lw_arg hc hH hl 2 (by omega) rfl dL_law_781 dL_law_782 dL_law_783 dL_law_784 dL_law_785 ?_
  refine aftI (runV C hE hA hH [34, 35, 36, 37, 38, 39, 40, 41, 42, 43, 44, 45] nd_12 (sC_XM_M g ax am R1 R2' R3 K T SN SZ F' G J) (kX6_kind l g am _ G J (xs (i + 1)) (xs (i + 2)) r G' q2) tw_23_4 tw_23_5 tw_23_6 tw_1_5 tw_23_7 hdX6_kind 34 rfl rfl rfl rfl ⟨Nat.le_of_ble_eq_true rfl, Nat.le_of_ble_eq_true rfl⟩ rfl hl.1 (rest := [.int r]) rfl (Nat.le_of_ble_eq_true rfl) dL_law_786 ⟨Nat.le_of_ble_eq_true rfl, Nat.le_of_ble_eq_true rfl⟩) hA hH [34, 35, 36, 37, 38, 39, 40, 41, 42, 43, 44, 45] [0, 1, 2, 3, 4, 5, 6, 7, 8, 9, 10, 11, 12, 13, 14, 15, 16, 17, 18, 19, 20, 21, 22, 23, 24, 25, 26, 27, 28, 29, 30, 31, 32, 33] (sC_XM_M g ax am R1 R2' R3 K T SN SZ F' G J) (sR_XM_M g ax am R1 R2' R3 K T SN SZ F' G J) nd_34 dj_XM_M [0, 1, 2, 3, 4, 5, 6, 7, 8, 9, 10, 11, 12, 13, 14, 15, 16, 17, 18, 19, 20, 21, 22, 23, 24, 25, 26, 27, 28, 29, 30, 31, 32, 33, 34, 35, 36, 37, 38, 39, 40, 41, 42, 43, 44, 45] nd_46 (sP_XM_M g ax am R1 R2' R3 K T SN SZ F' G J G' J) (fun H locs hH => ?_)
  refine lv_icmp_eq (tgt := 1312) hx hb dL_law_789 (by decide) (fun _ => ?_) (fun c9 => absurd rfl c9)
  exact kk _ _ _ _ _ _ _ _ _ _ h' _ _ ls hH hl
set_option maxHeartbeats 4000000 in
set_option maxRecDepth 100000 in
theorem lc_enough (hc : Lc p s m meth c b L xs g) (hi : i + 6 ≤ L) (kk : Kk p l e s m below meth c b g ax am i 1312) : Kk p l e s m below meth c b g ax am i 794 := by
  intro R1 R2 R3 K T SN SZ F G J h H locs ls hH hl
  obtain ⟨C, hE, hX, hbl, hL⟩ := id hc
  obtain ⟨hx, hb, hml, hown, hT, hr, hlk⟩ := id C
  have hA : ∀ q : Nat, s.heap.size ≤ q → aH s q := fun _ q => q
  obtain ⟨r, R2', F', G', q1, q2, h'⟩ := e_enough h (xs (i + 1))
  refine lv_aload_n hx hb dL_law_794 rfl (lv_at hl 1 rfl) ?_
  refine lw_arg hc hH hl 1 (by omega) rfl dL_law_795 dL_law_796 dL_law_797 dL_law_798 dL_law_799 ?_
  refine aftI (runV C hE hA hH [0, 1, 2, 3, 4, 5, 6, 7, 8, 9, 10, 11, 12, 13, 14, 15, 16, 17, 18, 19, 20, 21, 22, 23, 24, 25, 26, 27, 28, 29, 30, 31, 32, 33] nd_34 (sC_XM_X g ax am R1 R2 R3 K T SN SZ F G J) (kX5_enough l g ax _ R1 R2 R3 K T SN SZ F (xs (i + 1)) r R2' F' q1) tw_23_8 tw_23_9 tw_23_10 tw_1_2 tw_23_11 hdX5_enough 0 rfl rfl rfl rfl ⟨Nat.le_of_ble_eq_true rfl, Nat.le_of_ble_eq_true rfl⟩ rfl hl.1 (rest := []) rfl (Nat.le_of_ble_eq_true rfl) dL_law_800 ⟨Nat.le_of_ble_eq_true rfl, Nat.le_of_ble_eq_true rfl⟩) hA hH [0, 1, 2, 3, 4, 5, 6, 7, 8, 9, 10, 11, 12, 13, 14, 15, 16, 17, 18, 19, 20, 21, 22, 23, 24, 25, 26, 27, 28, 29, 30, 31, 32, 33] [34, 35, 36, 37, 38, 39, 40, 41, 42, 43, 44, 45] (sC_XM_X g ax am R1 R2 R3 K T SN SZ F G J) (sR_XM_X g ax am R1 R2 R3 K T SN SZ F G J) nd_12 dj_XM_X [12, 13, 14, 15, 16, 17, 18, 19, 20, 21, 22, 23, 24, 25, 26, 27, 28, 29, 30, 31, 32, 33, 34, 35, 36, 37, 38, 39, 40, 41, 42, 43, 44, 45, 0, 1, 2, 3, 4, 5, 6, 7, 8, 9, 10, 11] nd_46p (sP_XM_X g ax am R1 R2 R3 K T SN SZ F G J R1 R2' R3 K T SN SZ F') (fun H locs hH => ?_)
  refine lv_aload_n hx hb dL_law_803 rfl (lv_at hl 2 rfl) ?_
  refine lw_arg hc hH hl 1 (by omega) rfl dL_law_804 dL_law_805 dL_law_806 dL_law_807 dL_law_808 ?_
  refine aftI (runV C hE hA hH [34, 35, 36, 37, 38, 39, 40, 41, 42, 43, 44, 45] nd_12 (sC_XM_M g ax am R1 R2' R3 K T SN SZ F' G J) (kX6_enough l g am _ G J (xs (i + 1)) r G' q2) tw_23_16 tw_23_17 tw_23_18 tw_1_5 tw_23_19 hdX6_enough 34 rfl rfl rfl rfl ⟨Nat.le_of_ble_eq_true rfl, Nat.le_of_ble_eq_true rfl⟩ rfl hl.1 (rest := [.int r]) rfl (Nat.le_of_ble_eq_true rfl) dL_law_809 ⟨Nat.le_of_ble_eq_true rfl, Nat.le_of_ble_eq_true rfl⟩) hA hH [34, 35, 36, 37, 38, 39, 40, 41, 42, 43, 44, 45] [0, 1, 2, 3, 4, 5, 6, 7, 8, 9, 10, 11, 12, 13, 14, 15, 16, 17, 18, 19, 20, 21, 22, 23, 24, 25, 26, 27, 28, 29, 30, 31, 32, 33] (sC_XM_M g ax am R1 R2' R3 K T SN SZ F' G J) (sR_XM_M g ax am R1 R2' R3 K T SN SZ F' G J) nd_34 dj_XM_M [0, 1, 2, 3, 4, 5, 6, 7, 8, 9, 10, 11, 12, 13, 14, 15, 16, 17, 18, 19, 20, 21, 22, 23, 24, 25, 26, 27, 28, 29, 30, 31, 32, 33, 34, 35, 36, 37, 38, 39, 40, 41, 42, 43, 44, 45] nd_46 (sP_XM_M g ax am R1 R2' R3 K T SN SZ F' G J G' J) (fun H locs hH => ?_)
  refine lv_icmp_eq (tgt := 1312) hx hb dL_law_812 (by decide) (fun _ => ?_) (fun c9 => absurd rfl c9)
  exact kk _ _ _ _ _ _ _ _ _ _ h' _ _ ls hH hl
set_option maxHeartbeats 4000000 in
set_option maxRecDepth 100000 in
theorem lc_beds (hc : Lc p s m meth c b L xs g) (hi : i + 6 ≤ L) (kk : Kk p l e s m below meth c b g ax am i 1312) : Kk p l e s m below meth c b g ax am i 817 := by
  intro R1 R2 R3 K T SN SZ F G J h H locs ls hH hl
  obtain ⟨C, hE, hX, hbl, hL⟩ := id hc
  obtain ⟨hx, hb, hml, hown, hT, hr, hlk⟩ := id C
  have hA : ∀ q : Nat, s.heap.size ≤ q → aH s q := fun _ q => q
  obtain ⟨r, R2', F', G', q1, q2, h'⟩ := e_beds h (xs (i + 1))
  refine lv_aload_n hx hb dL_law_817 rfl (lv_at hl 1 rfl) ?_
  refine lw_arg hc hH hl 1 (by omega) rfl dL_law_818 dL_law_819 dL_law_820 dL_law_821 dL_law_822 ?_
  refine aftI (runV C hE hA hH [0, 1, 2, 3, 4, 5, 6, 7, 8, 9, 10, 11, 12, 13, 14, 15, 16, 17, 18, 19, 20, 21, 22, 23, 24, 25, 26, 27, 28, 29, 30, 31, 32, 33] nd_34 (sC_XM_X g ax am R1 R2 R3 K T SN SZ F G J) (kX5_beds l g ax _ R1 R2 R3 K T SN SZ F (xs (i + 1)) r R2' F' q1) tw_23_20 tw_23_21 tw_23_22 tw_1_2 tw_23_23 hdX5_beds 0 rfl rfl rfl rfl ⟨Nat.le_of_ble_eq_true rfl, Nat.le_of_ble_eq_true rfl⟩ rfl hl.1 (rest := []) rfl (Nat.le_of_ble_eq_true rfl) dL_law_823 ⟨Nat.le_of_ble_eq_true rfl, Nat.le_of_ble_eq_true rfl⟩) hA hH [0, 1, 2, 3, 4, 5, 6, 7, 8, 9, 10, 11, 12, 13, 14, 15, 16, 17, 18, 19, 20, 21, 22, 23, 24, 25, 26, 27, 28, 29, 30, 31, 32, 33] [34, 35, 36, 37, 38, 39, 40, 41, 42, 43, 44, 45] (sC_XM_X g ax am R1 R2 R3 K T SN SZ F G J) (sR_XM_X g ax am R1 R2 R3 K T SN SZ F G J) nd_12 dj_XM_X [12, 13, 14, 15, 16, 17, 18, 19, 20, 21, 22, 23, 24, 25, 26, 27, 28, 29, 30, 31, 32, 33, 34, 35, 36, 37, 38, 39, 40, 41, 42, 43, 44, 45, 0, 1, 2, 3, 4, 5, 6, 7, 8, 9, 10, 11] nd_46p (sP_XM_X g ax am R1 R2 R3 K T SN SZ F G J R1 R2' R3 K T SN SZ F') (fun H locs hH => ?_)
  refine lv_aload_n hx hb dL_law_826 rfl (lv_at hl 2 rfl) ?_
  refine lw_arg hc hH hl 1 (by omega) rfl dL_law_827 dL_law_828 dL_law_829 dL_law_830 dL_law_831 ?_
  refine aftI (runV C hE hA hH [34, 35, 36, 37, 38, 39, 40, 41, 42, 43, 44, 45] nd_12 (sC_XM_M g ax am R1 R2' R3 K T SN SZ F' G J) (kX6_beds l g am _ G J (xs (i + 1)) r G' q2) tw_24_5 tw_24_6 tw_24_7 tw_1_5 tw_24_8 hdX6_beds 34 rfl rfl rfl rfl ⟨Nat.le_of_ble_eq_true rfl, Nat.le_of_ble_eq_true rfl⟩ rfl hl.1 (rest := [.int r]) rfl (Nat.le_of_ble_eq_true rfl) dL_law_832 ⟨Nat.le_of_ble_eq_true rfl, Nat.le_of_ble_eq_true rfl⟩) hA hH [34, 35, 36, 37, 38, 39, 40, 41, 42, 43, 44, 45] [0, 1, 2, 3, 4, 5, 6, 7, 8, 9, 10, 11, 12, 13, 14, 15, 16, 17, 18, 19, 20, 21, 22, 23, 24, 25, 26, 27, 28, 29, 30, 31, 32, 33] (sC_XM_M g ax am R1 R2' R3 K T SN SZ F' G J) (sR_XM_M g ax am R1 R2' R3 K T SN SZ F' G J) nd_34 dj_XM_M [0, 1, 2, 3, 4, 5, 6, 7, 8, 9, 10, 11, 12, 13, 14, 15, 16, 17, 18, 19, 20, 21, 22, 23, 24, 25, 26, 27, 28, 29, 30, 31, 32, 33, 34, 35, 36, 37, 38, 39, 40, 41, 42, 43, 44, 45] nd_46 (sP_XM_M g ax am R1 R2' R3 K T SN SZ F' G J G' J) (fun H locs hH => ?_)
  refine lv_icmp_eq (tgt := 1312) hx hb dL_law_835 (by decide) (fun _ => ?_) (fun c9 => absurd rfl c9)
  exact kk _ _ _ _ _ _ _ _ _ _ h' _ _ ls hH hl
set_option maxHeartbeats 4000000 in
set_option maxRecDepth 100000 in
theorem lc_storm (hc : Lc p s m meth c b L xs g) (hi : i + 6 ≤ L) (kk : Kk p l e s m below meth c b g ax am i 1312) : Kk p l e s m below meth c b g ax am i 840 := by
  intro R1 R2 R3 K T SN SZ F G J h H locs ls hH hl
  obtain ⟨C, hE, hX, hbl, hL⟩ := id hc
  obtain ⟨hx, hb, hml, hown, hT, hr, hlk⟩ := id C
  have hA : ∀ q : Nat, s.heap.size ≤ q → aH s q := fun _ q => q
  obtain ⟨r, R2', F', G', q1, q2, h'⟩ := e_storm h 
  refine lv_aload_n hx hb dL_law_840 rfl (lv_at hl 1 rfl) ?_
  refine aftI (runV C hE hA hH [0, 1, 2, 3, 4, 5, 6, 7, 8, 9, 10, 11, 12, 13, 14, 15, 16, 17, 18, 19, 20, 21, 22, 23, 24, 25, 26, 27, 28, 29, 30, 31, 32, 33] nd_34 (sC_XM_X g ax am R1 R2 R3 K T SN SZ F G J) (kX5_storm l g ax _ R1 R2 R3 K T SN SZ F  r R2' F' q1) tw_24_13 tw_24_14 tw_24_15 tw_1_2 tw_24_16 hdX5_storm 0 rfl rfl rfl rfl ⟨Nat.le_of_ble_eq_true rfl, Nat.le_of_ble_eq_true rfl⟩ rfl hl.1 (rest := []) rfl (Nat.le_of_ble_eq_true rfl) dL_law_841 ⟨Nat.le_of_ble_eq_true rfl, Nat.le_of_ble_eq_true rfl⟩) hA hH [0, 1, 2, 3, 4, 5, 6, 7, 8, 9, 10, 11, 12, 13, 14, 15, 16, 17, 18, 19, 20, 21, 22, 23, 24, 25, 26, 27, 28, 29, 30, 31, 32, 33] [34, 35, 36, 37, 38, 39, 40, 41, 42, 43, 44, 45] (sC_XM_X g ax am R1 R2 R3 K T SN SZ F G J) (sR_XM_X g ax am R1 R2 R3 K T SN SZ F G J) nd_12 dj_XM_X [12, 13, 14, 15, 16, 17, 18, 19, 20, 21, 22, 23, 24, 25, 26, 27, 28, 29, 30, 31, 32, 33, 34, 35, 36, 37, 38, 39, 40, 41, 42, 43, 44, 45, 0, 1, 2, 3, 4, 5, 6, 7, 8, 9, 10, 11] nd_46p (sP_XM_X g ax am R1 R2 R3 K T SN SZ F G J R1 R2' R3 K T SN SZ F') (fun H locs hH => ?_)
  refine lv_aload_n hx hb dL_law_844 rfl (lv_at hl 2 rfl) ?_
  refine aftI (runV C hE hA hH [34, 35, 36, 37, 38, 39, 40, 41, 42, 43, 44, 45] nd_12 (sC_XM_M g ax am R1 R2' R3 K T SN SZ F' G J) (kX6_storm l g am _ G J  r G' q2) tw_24_17 tw_24_18 tw_24_19 tw_1_5 tw_24_20 hdX6_storm 34 rfl rfl rfl rfl ⟨Nat.le_of_ble_eq_true rfl, Nat.le_of_ble_eq_true rfl⟩ rfl hl.1 (rest := [.int r]) rfl (Nat.le_of_ble_eq_true rfl) dL_law_845 ⟨Nat.le_of_ble_eq_true rfl, Nat.le_of_ble_eq_true rfl⟩) hA hH [34, 35, 36, 37, 38, 39, 40, 41, 42, 43, 44, 45] [0, 1, 2, 3, 4, 5, 6, 7, 8, 9, 10, 11, 12, 13, 14, 15, 16, 17, 18, 19, 20, 21, 22, 23, 24, 25, 26, 27, 28, 29, 30, 31, 32, 33] (sC_XM_M g ax am R1 R2' R3 K T SN SZ F' G J) (sR_XM_M g ax am R1 R2' R3 K T SN SZ F' G J) nd_34 dj_XM_M [0, 1, 2, 3, 4, 5, 6, 7, 8, 9, 10, 11, 12, 13, 14, 15, 16, 17, 18, 19, 20, 21, 22, 23, 24, 25, 26, 27, 28, 29, 30, 31, 32, 33, 34, 35, 36, 37, 38, 39, 40, 41, 42, 43, 44, 45] nd_46 (sP_XM_M g ax am R1 R2' R3 K T SN SZ F' G J G' J) (fun H locs hH => ?_)
  refine lv_icmp_eq (tgt := 1312) hx hb dL_law_848 (by decide) (fun _ => ?_) (fun c9 => absurd rfl c9)
  exact kk _ _ _ _ _ _ _ _ _ _ h' _ _ ls hH hl
set_option maxHeartbeats 4000000 in
set_option maxRecDepth 100000 in
theorem lc_change (hc : Lc p s m meth c b L xs g) (hi : i + 6 ≤ L) (kk : Kk p l e s m below meth c b g ax am i 1312) : Kk p l e s m below meth c b g ax am i 853 := by
  intro R1 R2 R3 K T SN SZ F G J h H locs ls hH hl
  obtain ⟨C, hE, hX, hbl, hL⟩ := id hc
  obtain ⟨hx, hb, hml, hown, hT, hr, hlk⟩ := id C
  have hA : ∀ q : Nat, s.heap.size ≤ q → aH s q := fun _ q => q
  obtain ⟨r, R2', F', G', q1, q2, h'⟩ := e_change h (xs (i + 1))
  refine lv_aload_n hx hb dL_law_853 rfl (lv_at hl 1 rfl) ?_
  refine lw_arg hc hH hl 1 (by omega) rfl dL_law_854 dL_law_855 dL_law_856 dL_law_857 dL_law_858 ?_
  refine aftI (runV C hE hA hH [0, 1, 2, 3, 4, 5, 6, 7, 8, 9, 10, 11, 12, 13, 14, 15, 16, 17, 18, 19, 20, 21, 22, 23, 24, 25, 26, 27, 28, 29, 30, 31, 32, 33] nd_34 (sC_XM_X g ax am R1 R2 R3 K T SN SZ F G J) (kX5_change l g ax _ R1 R2 R3 K T SN SZ F (xs (i + 1)) r R2' F' q1) tw_24_21 tw_24_22 tw_24_23 tw_1_2 tw_25_0 hdX5_change 0 rfl rfl rfl rfl ⟨Nat.le_of_ble_eq_true rfl, Nat.le_of_ble_eq_true rfl⟩ rfl hl.1 (rest := []) rfl (Nat.le_of_ble_eq_true rfl) dL_law_859 ⟨Nat.le_of_ble_eq_true rfl, Nat.le_of_ble_eq_true rfl⟩) hA hH [0, 1, 2, 3, 4, 5, 6, 7, 8, 9, 10, 11, 12, 13, 14, 15, 16, 17, 18, 19, 20, 21, 22, 23, 24, 25, 26, 27, 28, 29, 30, 31, 32, 33] [34, 35, 36, 37, 38, 39, 40, 41, 42, 43, 44, 45] (sC_XM_X g ax am R1 R2 R3 K T SN SZ F G J) (sR_XM_X g ax am R1 R2 R3 K T SN SZ F G J) nd_12 dj_XM_X [12, 13, 14, 15, 16, 17, 18, 19, 20, 21, 22, 23, 24, 25, 26, 27, 28, 29, 30, 31, 32, 33, 34, 35, 36, 37, 38, 39, 40, 41, 42, 43, 44, 45, 0, 1, 2, 3, 4, 5, 6, 7, 8, 9, 10, 11] nd_46p (sP_XM_X g ax am R1 R2 R3 K T SN SZ F G J R1 R2' R3 K T SN SZ F') (fun H locs hH => ?_)
  refine lv_aload_n hx hb dL_law_862 rfl (lv_at hl 2 rfl) ?_
  refine lw_arg hc hH hl 1 (by omega) rfl dL_law_863 dL_law_864 dL_law_865 dL_law_866 dL_law_867 ?_
  refine aftI (runV C hE hA hH [34, 35, 36, 37, 38, 39, 40, 41, 42, 43, 44, 45] nd_12 (sC_XM_M g ax am R1 R2' R3 K T SN SZ F' G J) (kX6_change l g am _ G J (xs (i + 1)) r G' q2) tw_25_2 tw_25_3 tw_25_4 tw_1_5 tw_25_5 hdX6_change 34 rfl rfl rfl rfl ⟨Nat.le_of_ble_eq_true rfl, Nat.le_of_ble_eq_true rfl⟩ rfl hl.1 (rest := [.int r]) rfl (Nat.le_of_ble_eq_true rfl) dL_law_868 ⟨Nat.le_of_ble_eq_true rfl, Nat.le_of_ble_eq_true rfl⟩) hA hH [34, 35, 36, 37, 38, 39, 40, 41, 42, 43, 44, 45] [0, 1, 2, 3, 4, 5, 6, 7, 8, 9, 10, 11, 12, 13, 14, 15, 16, 17, 18, 19, 20, 21, 22, 23, 24, 25, 26, 27, 28, 29, 30, 31, 32, 33] (sC_XM_M g ax am R1 R2' R3 K T SN SZ F' G J) (sR_XM_M g ax am R1 R2' R3 K T SN SZ F' G J) nd_34 dj_XM_M [0, 1, 2, 3, 4, 5, 6, 7, 8, 9, 10, 11, 12, 13, 14, 15, 16, 17, 18, 19, 20, 21, 22, 23, 24, 25, 26, 27, 28, 29, 30, 31, 32, 33, 34, 35, 36, 37, 38, 39, 40, 41, 42, 43, 44, 45] nd_46 (sP_XM_M g ax am R1 R2' R3 K T SN SZ F' G J G' J) (fun H locs hH => ?_)
  refine lv_icmp_eq (tgt := 1312) hx hb dL_law_871 (by decide) (fun _ => ?_) (fun c9 => absurd rfl c9)
  exact kk _ _ _ _ _ _ _ _ _ _ h' _ _ ls hH hl
set_option maxHeartbeats 4000000 in
set_option maxRecDepth 100000 in
theorem lc_heard (hc : Lc p s m meth c b L xs g) (hi : i + 6 ≤ L) (kk : Kk p l e s m below meth c b g ax am i 1312) : Kk p l e s m below meth c b g ax am i 876 := by
  intro R1 R2 R3 K T SN SZ F G J h H locs ls hH hl
  obtain ⟨C, hE, hX, hbl, hL⟩ := id hc
  obtain ⟨hx, hb, hml, hown, hT, hr, hlk⟩ := id C
  have hA : ∀ q : Nat, s.heap.size ≤ q → aH s q := fun _ q => q
  obtain ⟨r, R2', F', G', q1, q2, h'⟩ := e_heard h (xs (i + 1)) (xs (i + 2))
  refine lv_aload_n hx hb dL_law_876 rfl (lv_at hl 1 rfl) ?_
  refine lw_arg hc hH hl 1 (by omega) rfl dL_law_877 dL_law_878 dL_law_879 dL_law_880 dL_law_881 ?_
  refine lw_arg hc hH hl 2 (by omega) rfl dL_law_882 dL_law_883 dL_law_884 dL_law_885 dL_law_886 ?_
  refine aftI (runV C hE hA hH [0, 1, 2, 3, 4, 5, 6, 7, 8, 9, 10, 11, 12, 13, 14, 15, 16, 17, 18, 19, 20, 21, 22, 23, 24, 25, 26, 27, 28, 29, 30, 31, 32, 33] nd_34 (sC_XM_X g ax am R1 R2 R3 K T SN SZ F G J) (kX5_heard l g ax _ R1 R2 R3 K T SN SZ F (xs (i + 1)) (xs (i + 2)) r R2' F' q1) tw_25_6 tw_25_7 tw_25_8 tw_1_2 tw_25_9 hdX5_heard 0 rfl rfl rfl rfl ⟨Nat.le_of_ble_eq_true rfl, Nat.le_of_ble_eq_true rfl⟩ rfl hl.1 (rest := []) rfl (Nat.le_of_ble_eq_true rfl) dL_law_887 ⟨Nat.le_of_ble_eq_true rfl, Nat.le_of_ble_eq_true rfl⟩) hA hH [0, 1, 2, 3, 4, 5, 6, 7, 8, 9, 10, 11, 12, 13, 14, 15, 16, 17, 18, 19, 20, 21, 22, 23, 24, 25, 26, 27, 28, 29, 30, 31, 32, 33] [34, 35, 36, 37, 38, 39, 40, 41, 42, 43, 44, 45] (sC_XM_X g ax am R1 R2 R3 K T SN SZ F G J) (sR_XM_X g ax am R1 R2 R3 K T SN SZ F G J) nd_12 dj_XM_X [12, 13, 14, 15, 16, 17, 18, 19, 20, 21, 22, 23, 24, 25, 26, 27, 28, 29, 30, 31, 32, 33, 34, 35, 36, 37, 38, 39, 40, 41, 42, 43, 44, 45, 0, 1, 2, 3, 4, 5, 6, 7, 8, 9, 10, 11] nd_46p (sP_XM_X g ax am R1 R2 R3 K T SN SZ F G J R1 R2' R3 K T SN SZ F') (fun H locs hH => ?_)
  refine lv_aload_n hx hb dL_law_890 rfl (lv_at hl 2 rfl) ?_
  refine lw_arg hc hH hl 1 (by omega) rfl dL_law_891 dL_law_892 dL_law_893 dL_law_894 dL_law_895 ?_
  refine lw_arg hc hH hl 2 (by omega) rfl dL_law_896 dL_law_897 dL_law_898 dL_law_899 dL_law_900 ?_
  refine aftI (runV C hE hA hH [34, 35, 36, 37, 38, 39, 40, 41, 42, 43, 44, 45] nd_12 (sC_XM_M g ax am R1 R2' R3 K T SN SZ F' G J) (kX6_heard l g am _ G J (xs (i + 1)) (xs (i + 2)) r G' q2) tw_25_15 tw_25_16 tw_25_17 tw_1_5 tw_25_18 hdX6_heard 34 rfl rfl rfl rfl ⟨Nat.le_of_ble_eq_true rfl, Nat.le_of_ble_eq_true rfl⟩ rfl hl.1 (rest := [.int r]) rfl (Nat.le_of_ble_eq_true rfl) dL_law_901 ⟨Nat.le_of_ble_eq_true rfl, Nat.le_of_ble_eq_true rfl⟩) hA hH [34, 35, 36, 37, 38, 39, 40, 41, 42, 43, 44, 45] [0, 1, 2, 3, 4, 5, 6, 7, 8, 9, 10, 11, 12, 13, 14, 15, 16, 17, 18, 19, 20, 21, 22, 23, 24, 25, 26, 27, 28, 29, 30, 31, 32, 33] (sC_XM_M g ax am R1 R2' R3 K T SN SZ F' G J) (sR_XM_M g ax am R1 R2' R3 K T SN SZ F' G J) nd_34 dj_XM_M [0, 1, 2, 3, 4, 5, 6, 7, 8, 9, 10, 11, 12, 13, 14, 15, 16, 17, 18, 19, 20, 21, 22, 23, 24, 25, 26, 27, 28, 29, 30, 31, 32, 33, 34, 35, 36, 37, 38, 39, 40, 41, 42, 43, 44, 45] nd_46 (sP_XM_M g ax am R1 R2' R3 K T SN SZ F' G J G' J) (fun H locs hH => ?_)
  refine lv_icmp_eq (tgt := 1312) hx hb dL_law_904 (by decide) (fun _ => ?_) (fun c9 => absurd rfl c9)
  exact kk _ _ _ _ _ _ _ _ _ _ h' _ _ ls hH hl
set_option maxHeartbeats 4000000 in
set_option maxRecDepth 100000 in
theorem lc_feed (hc : Lc p s m meth c b L xs g) (hi : i + 6 ≤ L) (kk : Kk p l e s m below meth c b g ax am i 1312) : Kk p l e s m below meth c b g ax am i 909 := by
  intro R1 R2 R3 K T SN SZ F G J h H locs ls hH hl
  obtain ⟨C, hE, hX, hbl, hL⟩ := id hc
  obtain ⟨hx, hb, hml, hown, hT, hr, hlk⟩ := id C
  have hA : ∀ q : Nat, s.heap.size ≤ q → aH s q := fun _ q => q
  obtain ⟨r, T', F', G', q1, q2, h'⟩ := e_feed h (xs (i + 1)) (xs (i + 2))
  refine lv_aload_n hx hb dL_law_909 rfl (lv_at hl 1 rfl) ?_
  refine lw_arg hc hH hl 1 (by omega) rfl dL_law_910 dL_law_911 dL_law_912 dL_law_913 dL_law_914 ?_
  refine lw_arg hc hH hl 2 (by omega) rfl dL_law_915 dL_law_916 dL_law_917 dL_law_918 dL_law_919 ?_
  refine aftI (runV C hE hA hH [0, 1, 2, 3, 4, 5, 6, 7, 8, 9, 10, 11, 12, 13, 14, 15, 16, 17, 18, 19, 20, 21, 22, 23, 24, 25, 26, 27, 28, 29, 30, 31, 32, 33] nd_34 (sC_XM_X g ax am R1 R2 R3 K T SN SZ F G J) (kX5_feed l g ax _ R1 R2 R3 K T SN SZ F (xs (i + 1)) (xs (i + 2)) r T' F' q1) tw_25_19 tw_25_20 tw_25_21 tw_1_2 tw_25_22 hdX5_feed 0 rfl rfl rfl rfl ⟨Nat.le_of_ble_eq_true rfl, Nat.le_of_ble_eq_true rfl⟩ rfl hl.1 (rest := []) rfl (Nat.le_of_ble_eq_true rfl) dL_law_920 ⟨Nat.le_of_ble_eq_true rfl, Nat.le_of_ble_eq_true rfl⟩) hA hH [0, 1, 2, 3, 4, 5, 6, 7, 8, 9, 10, 11, 12, 13, 14, 15, 16, 17, 18, 19, 20, 21, 22, 23, 24, 25, 26, 27, 28, 29, 30, 31, 32, 33] [34, 35, 36, 37, 38, 39, 40, 41, 42, 43, 44, 45] (sC_XM_X g ax am R1 R2 R3 K T SN SZ F G J) (sR_XM_X g ax am R1 R2 R3 K T SN SZ F G J) nd_12 dj_XM_X [12, 13, 14, 15, 16, 17, 18, 19, 20, 21, 22, 23, 24, 25, 26, 27, 28, 29, 30, 31, 32, 33, 34, 35, 36, 37, 38, 39, 40, 41, 42, 43, 44, 45, 0, 1, 2, 3, 4, 5, 6, 7, 8, 9, 10, 11] nd_46p (sP_XM_X g ax am R1 R2 R3 K T SN SZ F G J R1 R2 R3 K T' SN SZ F') (fun H locs hH => ?_)
  refine lv_aload_n hx hb dL_law_923 rfl (lv_at hl 2 rfl) ?_
  refine lw_arg hc hH hl 1 (by omega) rfl dL_law_924 dL_law_925 dL_law_926 dL_law_927 dL_law_928 ?_
  refine lw_arg hc hH hl 2 (by omega) rfl dL_law_929 dL_law_930 dL_law_931 dL_law_932 dL_law_933 ?_
  refine aftI (runV C hE hA hH [34, 35, 36, 37, 38, 39, 40, 41, 42, 43, 44, 45] nd_12 (sC_XM_M g ax am R1 R2 R3 K T' SN SZ F' G J) (kX6_feed l g am _ G J (xs (i + 1)) (xs (i + 2)) r G' q2) tw_26_4 tw_26_5 tw_26_6 tw_1_5 tw_26_7 hdX6_feed 34 rfl rfl rfl rfl ⟨Nat.le_of_ble_eq_true rfl, Nat.le_of_ble_eq_true rfl⟩ rfl hl.1 (rest := [.int r]) rfl (Nat.le_of_ble_eq_true rfl) dL_law_934 ⟨Nat.le_of_ble_eq_true rfl, Nat.le_of_ble_eq_true rfl⟩) hA hH [34, 35, 36, 37, 38, 39, 40, 41, 42, 43, 44, 45] [0, 1, 2, 3, 4, 5, 6, 7, 8, 9, 10, 11, 12, 13, 14, 15, 16, 17, 18, 19, 20, 21, 22, 23, 24, 25, 26, 27, 28, 29, 30, 31, 32, 33] (sC_XM_M g ax am R1 R2 R3 K T' SN SZ F' G J) (sR_XM_M g ax am R1 R2 R3 K T' SN SZ F' G J) nd_34 dj_XM_M [0, 1, 2, 3, 4, 5, 6, 7, 8, 9, 10, 11, 12, 13, 14, 15, 16, 17, 18, 19, 20, 21, 22, 23, 24, 25, 26, 27, 28, 29, 30, 31, 32, 33, 34, 35, 36, 37, 38, 39, 40, 41, 42, 43, 44, 45] nd_46 (sP_XM_M g ax am R1 R2 R3 K T' SN SZ F' G J G' J) (fun H locs hH => ?_)
  refine lv_icmp_eq (tgt := 1312) hx hb dL_law_937 (by decide) (fun _ => ?_) (fun c9 => absurd rfl c9)
  exact kk _ _ _ _ _ _ _ _ _ _ h' _ _ ls hH hl
end LB
