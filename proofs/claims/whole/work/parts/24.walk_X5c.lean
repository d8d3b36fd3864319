def fX5_sheet_c19  (R1 : M2) (R2 : M2) (R3 : M2) (K : Int32) (T : M2) (SN : J2) (SZ : M2) (F : M1) : Option (Int32 × J2 × M2 × M1) := bind2 (fX5_tell (-1000000001 : Int32) R1 R2 R3 K T SN SZ F) (fun (r_22 : Int32) (F_23 : M1) => some (r_22, SN, SZ, F_23))
def fX5_sheet (x1 : Int32) (x2 : Int32) (x3 : Int32) (R1 : M2) (R2 : M2) (R3 : M2) (K : Int32) (T : M2) (SN : J2) (SZ : M2) (F : M1) : Option (Int32 × J2 × M2 × M1) := (if inb x1 4 = true then letb x1.toNatClampNeg (fun k_26 : Nat => (fX2_isWidth x2).bind (fun (r_27 : Int32) => (if r_27 = 0 then fX5_sheet_c19  R1 R2 R3 K T SN SZ F else (if 0 ≤ x3 then (if x3 ≤ (40 : Int32) then bind2 (fX2_layOut x2 x3 (SN k_26) (SZ k_26)) (fun (B_32 : J1) (Z_33 : M1) => letb (st2 SN k_26 B_32) (fun SN_35 : J2 => letb (st2 SZ k_26 Z_33) (fun SZ_36 : M2 => some (SZ_36 k_26 1, SN_35, SZ_36, F)))) else bind2 (fX5_tell (-1000000001 : Int32) R1 R2 R3 K T SN SZ F) (fun (r_37 : Int32) (F_38 : M1) => some (r_37, SN, SZ, F_38))) else bind2 (fX5_tell (-1000000007 : Int32) R1 R2 R3 K T SN SZ F) (fun (r_40 : Int32) (F_41 : M1) => some (r_40, SN, SZ, F_41)))))) else fX5_sheet_c19  R1 R2 R3 K T SN SZ F)
def rmX5_sheet : Room := { frames := 2, cells := 0, slots := 0, locals := 46 }
theorem hdX5_sheet : yX5_sheet.cls = yX5_sheet.cls ∧ yX5_sheet.cls ≠ "java/lang/invoke/MethodHandle" ∧ yX5_sheet.cls ≠ "java/lang/invoke/VarHandle" ∧ (parseMethodDescriptor yX5_sheet.desc).map (fun d => d.parameters.length) = some 3 := by decide +kernel
set_option maxHeartbeats 4000000 in
set_option maxRecDepth 100000 in
theorem kX5_sheet (l : Launch) (g : Gl) (ad : Nat → Nat) (sz : Nat) (R1 : M2) (R2 : M2) (R3 : M2) (K : Int32) (T : M2) (SN : J2) (SZ : M2) (F : M1) (x1 : Int32) (x2 : Int32) (x3 : Int32) (r : Int32) (SN' : J2) (SZ' : M2) (F' : M1)  (hf : fX5_sheet x1 x2 x3 R1 R2 R3 K T SN SZ F = some (r, SN', SZ', F')) : MetI l yX5_sheet (Cond.code yX5_sheet cX5_sheet 5 (some .int) :: wsL_law) rmX5_sheet [.ref (ad 0), .int x1, .int x2, .int x3] g (wX g ad R1 R2 R3 K T SN SZ F) sz r (wX g ad R1 R2 R3 K T SN' SZ' F') := by
  refine openI (by decide +kernel) (Nat.le_of_ble_eq_true rfl) ?_
  intro p e s m args below meth c A C hE hA hH ls hl
  have hl : lv_has ls 5 [(0, .ref (ad 0)), (1, .int x1), (2, .int x2), (3, .int x3)] := hl
  have C : Cx p s m args meth c cX5_sheet 5 (some .int) RX5 := C
  obtain ⟨hx, hb, hml, hown, hT, hr, hlk⟩ := id C
  rw [fX5_sheet] at hf
  have j_19 : ∀ (SN : J2) (SZ : M2) (F : M1) (H : Heap) (locs : List Loc) (ls : Array Slot), fX5_sheet_c19  R1 R2 R3 K T SN SZ F = some (r, SN', SZ', F') → Hp g A s H locs (wX g ad R1 R2 R3 K T SN SZ F) → lv_has ls 5 [(0, .ref (ad 0))] → W p l e rmX5_sheet s m args below meth c H locs 0 0 (QI g A below args s r (wX g ad R1 R2 R3 K T SN' SZ' F')) (F0 m 19 ls []) := by
    intro SN SZ F H locs  ls hf hH hl
    rw [fX5_sheet_c19] at hf
    refine lv_aload_n hx hb dX5_sheet_19 rfl (lv_at hl 0 rfl) ?_
    refine lv_ldc hx hb hown (hT _ tw_4_12) dX5_sheet_20 ?_
    obtain ⟨r_22, F_23, hc_24, hf⟩ := bind2_inv hf
    refine aftI (runV C hE hA hH [0, 1, 2, 3, 4, 5, 6, 7, 8, 9, 10, 11, 12, 13, 14, 15, 16, 17, 18, 19, 20, 21, 22, 23, 24, 25, 26, 27, 28, 29, 30, 31, 32, 33] nC_X_X_0_33 (sC_X_X_0_33 g ad R1 R2 R3 K T SN SZ F) (kX5_tell l g ad _ R1 R2 R3 K T SN SZ F (-1000000001 : Int32) r_22 F_23  hc_24) tw_4_17 tw_4_18 tw_4_19 tw_1_2 tw_4_20 hdX5_tell 0 rfl rfl rfl rfl ⟨Nat.le_of_ble_eq_true rfl, Nat.le_of_ble_eq_true rfl⟩ rfl hl.1 (rest := []) rfl (Nat.le_of_ble_eq_true rfl) dX5_sheet_22 ⟨Nat.zero_le _, Nat.zero_le _⟩) hA hH [0, 1, 2, 3, 4, 5, 6, 7, 8, 9, 10, 11, 12, 13, 14, 15, 16, 17, 18, 19, 20, 21, 22, 23, 24, 25, 26, 27, 28, 29, 30, 31, 32, 33] [] (sC_X_X_0_33 g ad R1 R2 R3 K T SN SZ F) (sR_X_X_0_33 g ad R1 R2 R3 K T SN SZ F) nR_X_X_0_33 dj_X_X_0_33 [0, 1, 2, 3, 4, 5, 6, 7, 8, 9, 10, 11, 12, 13, 14, 15, 16, 17, 18, 19, 20, 21, 22, 23, 24, 25, 26, 27, 28, 29, 30, 31, 32, 33] nP_X_X_0_33 (sP_X_X_0_33 g ad R1 R2 R3 K T SN SZ F R1 R2 R3 K T SN SZ F_23) (fun H locs hH => ?_)
    have hf := Option.some.inj hf
    obtain ⟨h1, hf⟩ := Prod.mk.inj hf
    obtain ⟨h2, hf⟩ := Prod.mk.inj hf
    obtain ⟨h3, h4⟩ := Prod.mk.inj hf
    subst h1
    subst h2
    subst h3
    subst h4
    exact retI C hH rfl dX5_sheet_25
  refine lv_aload_n hx hb dX5_sheet_0 rfl (lv_at hl 0 rfl) ?_
  refine lv_iload_n hx hb dX5_sheet_1 rfl (lv_at hl 1 rfl) ?_
  refine aftPA (runV C hE hA hH [0, 1, 2, 3, 4, 5, 6, 7, 8, 9, 10, 11, 12, 13, 14, 15, 16, 17, 18, 19, 20, 21, 22, 23, 24, 25, 26, 27, 28, 29, 30, 31, 32, 33] nC_X_X_0_33 (sC_X_X_0_33 g ad R1 R2 R3 K T SN SZ F) (kX5_sheetAt l g ad _ R1 R2 R3 K T SN SZ F x1) tw_34_6 tw_34_7 tw_34_8 tw_1_2 tw_34_9 hdX5_sheetAt 0 rfl rfl rfl rfl ⟨Nat.le_of_ble_eq_true rfl, Nat.le_of_ble_eq_true rfl⟩ rfl hl.1 (rest := []) rfl (Nat.le_of_ble_eq_true rfl) dX5_sheet_2 ⟨Nat.zero_le _, Nat.zero_le _⟩) ?_
  by_cases c_25 : inb x1 4 = true
  · have hf := if_p hf c_25
    rw [shv, if_pos c_25]
    have hk_26 : x1.toNatClampNeg < 4 := Nat.not_le.mp fun q => inb_in c_25 (Or.inr q)
    generalize ek_26 : x1.toNatClampNeg = k_26 at hk_26 ⊢
    have hf := letb_at hf k_26 ek_26.symm
    refine lv_astore (lv' := [(4, .ref (ad (25 + 2 * k_26))), (0, .ref (ad 0)), (1, .int x1), (2, .int x2), (3, .int x3)]) hx hb dX5_sheet_5 hl (by decide) rfl (fun ls hl => ?_)
    refine lv_aload hx hb dX5_sheet_7 (lv_at hl 0 rfl) ?_
    refine lv_ifnull hx hb dX5_sheet_9 ?_
    refine lv_iload_n hx hb dX5_sheet_12 rfl (lv_at hl 3 rfl) ?_
    obtain ⟨r_27, hc_28, hf⟩ := bind_inv hf
    refine aftPI (runS C hE hA hH [] rfl rfl (kX2_isWidth l g ad _ x2 r_27  hc_28) tw_34_10 tw_34_11 tw_2_3 tw_34_12 hdX2_isWidth rfl rfl ⟨Nat.le_of_ble_eq_true rfl, Nat.le_of_ble_eq_true rfl⟩ rfl hl.1 (rest := []) rfl (Nat.le_of_ble_eq_true rfl) dX5_sheet_13 ⟨Nat.zero_le _, Nat.zero_le _⟩) ?_
    refine lv_if_ne (tgt := 26) hx hb dX5_sheet_16 (by decide) (fun c_29 => ?_) (fun c_29 => ?_)
    · have hf := if_n hf c_29
      refine lv_iload_n hx hb dX5_sheet_26 rfl (lv_at hl 4 rfl) ?_
      refine lv_if_ge (tgt := 37) hx hb dX5_sheet_27 (by decide) (fun c_30 => ?_) (fun c_30 => ?_)
      · have hf := if_p hf c_30
        refine lv_iload_n hx hb dX5_sheet_37 rfl (lv_at hl 4 rfl) ?_
        refine lv_bipush (v := 40) hx hb dX5_sheet_38 (by decide) ?_
        refine lv_icmp_le (tgt := 50) hx hb dX5_sheet_40 (by decide) (fun c_31 => ?_) (fun c_31 => ?_)
        · have hf := if_p hf c_31
          refine lv_aload hx hb dX5_sheet_50 (lv_at hl 0 rfl) ?_
          refine lv_iload_n hx hb dX5_sheet_52 rfl (lv_at hl 3 rfl) ?_
          refine lv_iload_n hx hb dX5_sheet_53 rfl (lv_at hl 4 rfl) ?_
          obtain ⟨B_32, Z_33, hc_34, hf⟩ := bind2_inv hf
          obtain ⟨isR, perm, wr, q1, q2, q3, q4, q5⟩ := sKsplit hk_26 g ad R1 R2 R3 K T SN SZ F
          refine aftV (runV C hE hA hH [25 + 2 * k_26, 26 + 2 * k_26] (nK hk_26) (sK hk_26 g ad R1 R2 R3 K T SN SZ F) (kX2_layOut l g (fun j => ad (25 + 2 * k_26 + j)) _ (SN k_26) (SZ k_26) x2 x3 B_32 Z_33 hc_34) tw_34_13 tw_34_14 tw_34_15 tw_2_3 tw_34_16 hdX2_layOut (25 + 2 * k_26) (wX_obj hk_26 g ad R1 R2 R3 K T SN SZ F) rfl rfl rfl ⟨Nat.le_of_ble_eq_true rfl, Nat.le_of_ble_eq_true rfl⟩ rfl hl.1 (rest := []) rfl (Nat.le_of_ble_eq_true rfl) dX5_sheet_54 ⟨Nat.zero_le _, Nat.zero_le _⟩) hA hH [25 + 2 * k_26, 26 + 2 * k_26] isR (sK hk_26 g ad R1 R2 R3 K T SN SZ F) q1 q2 q3 perm q4 (q5 B_32 Z_33) (fun H locs hH => ?_)
          obtain ⟨SN_35, eSN_35⟩ : ∃ z : J2, z = st2 SN k_26 B_32 := ⟨_, rfl⟩
          rw [← eSN_35] at hH
          have hf := letb_at hf SN_35 eSN_35
          obtain ⟨SZ_36, eSZ_36⟩ : ∃ z : M2, z = st2 SZ k_26 Z_33 := ⟨_, rfl⟩
          rw [← eSZ_36] at hH
          have hf := letb_at hf SZ_36 eSZ_36
          refine lv_aload hx hb dX5_sheet_57 (lv_at hl 0 rfl) ?_
          refine gf_RX5_228 C hE hH (25 + 2 * k_26) (wX_obj hk_26 g ad R1 R2 R3 K T SN_35 SZ_36 F) rfl dX5_sheet_59 ?_
          have hf := Option.some.inj hf
          obtain ⟨h1, hf⟩ := Prod.mk.inj hf
          obtain ⟨h2, hf⟩ := Prod.mk.inj hf
          obtain ⟨h3, h4⟩ := Prod.mk.inj hf
          subst h1
          subst h2
          subst h3
          subst h4
          exact retI C hH rfl dX5_sheet_62
        · have hf := if_n hf c_31
          refine lv_aload_n hx hb dX5_sheet_43 rfl (lv_at hl 1 rfl) ?_
          refine lv_ldc hx hb hown (hT _ tw_4_12) dX5_sheet_44 ?_
          obtain ⟨r_37, F_38, hc_39, hf⟩ := bind2_inv hf
          refine aftI (runV C hE hA hH [0, 1, 2, 3, 4, 5, 6, 7, 8, 9, 10, 11, 12, 13, 14, 15, 16, 17, 18, 19, 20, 21, 22, 23, 24, 25, 26, 27, 28, 29, 30, 31, 32, 33] nC_X_X_0_33 (sC_X_X_0_33 g ad R1 R2 R3 K T SN SZ F) (kX5_tell l g ad _ R1 R2 R3 K T SN SZ F (-1000000001 : Int32) r_37 F_38  hc_39) tw_4_17 tw_4_18 tw_4_19 tw_1_2 tw_4_20 hdX5_tell 0 rfl rfl rfl rfl ⟨Nat.le_of_ble_eq_true rfl, Nat.le_of_ble_eq_true rfl⟩ rfl hl.1 (rest := []) rfl (Nat.le_of_ble_eq_true rfl) dX5_sheet_46 ⟨Nat.zero_le _, Nat.zero_le _⟩) hA hH [0, 1, 2, 3, 4, 5, 6, 7, 8, 9, 10, 11, 12, 13, 14, 15, 16, 17, 18, 19, 20, 21, 22, 23, 24, 25, 26, 27, 28, 29, 30, 31, 32, 33] [] (sC_X_X_0_33 g ad R1 R2 R3 K T SN SZ F) (sR_X_X_0_33 g ad R1 R2 R3 K T SN SZ F) nR_X_X_0_33 dj_X_X_0_33 [0, 1, 2, 3, 4, 5, 6, 7, 8, 9, 10, 11, 12, 13, 14, 15, 16, 17, 18, 19, 20, 21, 22, 23, 24, 25, 26, 27, 28, 29, 30, 31, 32, 33] nP_X_X_0_33 (sP_X_X_0_33 g ad R1 R2 R3 K T SN SZ F R1 R2 R3 K T SN SZ F_38) (fun H locs hH => ?_)
          have hf := Option.some.inj hf
          obtain ⟨h1, hf⟩ := Prod.mk.inj hf
          obtain ⟨h2, hf⟩ := Prod.mk.inj hf
          obtain ⟨h3, h4⟩ := Prod.mk.inj hf
          subst h1
          subst h2
          subst h3
          subst h4
          exact retI C hH rfl dX5_sheet_49
      · have hf := if_n hf c_30
        refine lv_aload_n hx hb dX5_sheet_30 rfl (lv_at hl 1 rfl) ?_
        refine lv_ldc hx hb hown (hT _ tw_34_4) dX5_sheet_31 ?_
        obtain ⟨r_40, F_41, hc_42, hf⟩ := bind2_inv hf
        refine aftI (runV C hE hA hH [0, 1, 2, 3, 4, 5, 6, 7, 8, 9, 10, 11, 12, 13, 14, 15, 16, 17, 18, 19, 20, 21, 22, 23, 24, 25, 26, 27, 28, 29, 30, 31, 32, 33] nC_X_X_0_33 (sC_X_X_0_33 g ad R1 R2 R3 K T SN SZ F) (kX5_tell l g ad _ R1 R2 R3 K T SN SZ F (-1000000007 : Int32) r_40 F_41  hc_42) tw_4_17 tw_4_18 tw_4_19 tw_1_2 tw_4_20 hdX5_tell 0 rfl rfl rfl rfl ⟨Nat.le_of_ble_eq_true rfl, Nat.le_of_ble_eq_true rfl⟩ rfl hl.1 (rest := []) rfl (Nat.le_of_ble_eq_true rfl) dX5_sheet_33 ⟨Nat.zero_le _, Nat.zero_le _⟩) hA hH [0, 1, 2, 3, 4, 5, 6, 7, 8, 9, 10, 11, 12, 13, 14, 15, 16, 17, 18, 19, 20, 21, 22, 23, 24, 25, 26, 27, 28, 29, 30, 31, 32, 33] [] (sC_X_X_0_33 g ad R1 R2 R3 K T SN SZ F) (sR_X_X_0_33 g ad R1 R2 R3 K T SN SZ F) nR_X_X_0_33 dj_X_X_0_33 [0, 1, 2, 3, 4, 5, 6, 7, 8, 9, 10, 11, 12, 13, 14, 15, 16, 17, 18, 19, 20, 21, 22, 23, 24, 25, 26, 27, 28, 29, 30, 31, 32, 33] nP_X_X_0_33 (sP_X_X_0_33 g ad R1 R2 R3 K T SN SZ F R1 R2 R3 K T SN SZ F_41) (fun H locs hH => ?_)
        have hf := Option.some.inj hf
        obtain ⟨h1, hf⟩ := Prod.mk.inj hf
        obtain ⟨h2, hf⟩ := Prod.mk.inj hf
        obtain ⟨h3, h4⟩ := Prod.mk.inj hf
        subst h1
        subst h2
        subst h3
        subst h4
        exact retI C hH rfl dX5_sheet_36
    · have hf := if_p hf c_29
      exact j_19 SN SZ F _ _ ls hf hH (lv_sub hl [1] rfl)
  · have hf := if_n hf c_25
    rw [shv, if_neg c_25]
    refine lv_astoreN (lv' := [(4, .null), (0, .ref (ad 0)), (1, .int x1), (2, .int x2), (3, .int x3)]) hx hb dX5_sheet_5 hl (by decide) rfl (fun ls hl => ?_)
    refine lv_aloadN hx hb dX5_sheet_7 (lv_at hl 0 rfl) ?_
    refine lv_ifnullN (tgt := 19) hx hb dX5_sheet_9 (by decide) ?_
    exact j_19 SN SZ F _ _ ls hf hH (lv_sub hl [1] rfl)
def fX5_write (x1 : Int32) (x2 : Int32) (x3 : Int64) (R1 : M2) (R2 : M2) (R3 : M2) (K : Int32) (T : M2) (SN : J2) (SZ : M2) (F : M1) : Option (Int64 × J2 × M1) := (if inb x1 4 = true then letb x1.toNatClampNeg (fun k_25 : Nat => (fX2_isMissing (SN k_25) (SZ k_25)).bind (fun (r_26 : Int32) => (if r_26 = 0 then (fX5_within x2 (0 : Int32) ((SZ k_25 1) - (1 : Int32))).bind (fun (r_29 : Int32) => (if r_29 = 0 then bind2 (fX5_tell (-1000000001 : Int32) R1 R2 R3 K T SN SZ F) (fun (r_38 : Int32) (F_39 : M1) => some (r_38.toInt64, SN, F_39)) else grd (inb x2 40) (letb (SN k_25 x2.toNatClampNeg) (fun v_33 : Int64 => (fX2_put x2 x3 (SN k_25) (SZ k_25)).bind (fun (B_34 : J1) => letb (st2 SN k_25 B_34) (fun SN_36 : J2 => some (v_33, SN_36, F))))))) else bind2 (fX5_tell (-1000000006 : Int32) R1 R2 R3 K T SN SZ F) (fun (r_41 : Int32) (F_42 : M1) => some (r_41.toInt64, SN, F_42))))) else bind2 (fX5_tell (-1000000001 : Int32) R1 R2 R3 K T SN SZ F) (fun (r_44 : Int32) (F_45 : M1) => some (r_44.toInt64, SN, F_45)))
def rmX5_write : Room := { frames := 2, cells := 0, slots := 0, locals := 45 }
theorem hdX5_write : yX5_write.cls = yX5_write.cls ∧ yX5_write.cls ≠ "java/lang/invoke/MethodHandle" ∧ yX5_write.cls ≠ "java/lang/invoke/VarHandle" ∧ (parseMethodDescriptor yX5_write.desc).map (fun d => d.parameters.length) = some 3 := by decide +kernel
set_option maxHeartbeats 4000000 in
set_option maxRecDepth 100000 in
theorem kX5_write (l : Launch) (g : Gl) (ad : Nat → Nat) (sz : Nat) (R1 : M2) (R2 : M2) (R3 : M2) (K : Int32) (T : M2) (SN : J2) (SZ : M2) (F : M1) (x1 : Int32) (x2 : Int32) (x3 : Int64) (r : Int64) (SN' : J2) (F' : M1)  (hf : fX5_write x1 x2 x3 R1 R2 R3 K T SN SZ F = some (r, SN', F')) : MetJ l yX5_write (Cond.code yX5_write cX5_write 8 (some .long) :: wsL_law) rmX5_write [.ref (ad 0), .int x1, .int x2, .long x3] g (wX g ad R1 R2 R3 K T SN SZ F) sz r (wX g ad R1 R2 R3 K T SN' SZ F') := by
  refine openJ (by decide +kernel) (Nat.le_of_ble_eq_true rfl) ?_
  intro p e s m args below meth c A C hE hA hH ls hl
  have hl : lv_has ls 8 [(0, .ref (ad 0)), (1, .int x1), (2, .int x2), (3, .long x3)] := hl
  have C : Cx p s m args meth c cX5_write 8 (some .long) RX5 := C
  obtain ⟨hx, hb, hml, hown, hT, hr, hlk⟩ := id C
  rw [fX5_write] at hf
  refine lv_aload_n hx hb dX5_write_0 rfl (lv_at hl 0 rfl) ?_
  refine lv_iload_n hx hb dX5_write_1 rfl (lv_at hl 1 rfl) ?_
  refine aftPA (runV C hE hA hH [0, 1, 2, 3, 4, 5, 6, 7, 8, 9, 10, 11, 12, 13, 14, 15, 16, 17, 18, 19, 20, 21, 22, 23, 24, 25, 26, 27, 28, 29, 30, 31, 32, 33] nC_X_X_0_33 (sC_X_X_0_33 g ad R1 R2 R3 K T SN SZ F) (kX5_sheetAt l g ad _ R1 R2 R3 K T SN SZ F x1) tw_34_6 tw_34_7 tw_34_8 tw_1_2 tw_34_9 hdX5_sheetAt 0 rfl rfl rfl rfl ⟨Nat.le_of_ble_eq_true rfl, Nat.le_of_ble_eq_true rfl⟩ rfl hl.1 (rest := []) rfl (Nat.le_of_ble_eq_true rfl) dX5_write_2 ⟨Nat.zero_le _, Nat.zero_le _⟩) ?_
  by_cases c_24 : inb x1 4 = true
  · have hf := if_p hf c_24
    rw [shv, if_pos c_24]
    have hk_25 : x1.toNatClampNeg < 4 := Nat.not_le.mp fun q => inb_in c_24 (Or.inr q)
    generalize ek_25 : x1.toNatClampNeg = k_25 at hk_25 ⊢
    have hf := letb_at hf k_25 ek_25.symm
    refine lv_astore (lv' := [(5, .ref (ad (25 + 2 * k_25))), (0, .ref (ad 0)), (1, .int x1), (2, .int x2), (3, .long x3)]) hx hb dX5_write_5 hl (by decide) rfl (fun ls hl => ?_)
    refine lv_aload hx hb dX5_write_7 (lv_at hl 0 rfl) ?_
    refine lv_ifnonnull (tgt := 20) hx hb dX5_write_9 (by decide) ?_
    refine lv_aload hx hb dX5_write_20 (lv_at hl 0 rfl) ?_
    obtain ⟨r_26, hc_27, hf⟩ := bind_inv hf
    refine aftPI (runV C hE hA hH [25 + 2 * k_25, 26 + 2 * k_25] (nK hk_25) (sK hk_25 g ad R1 R2 R3 K T SN SZ F) (kX2_isMissing l g (fun j => ad (25 + 2 * k_25 + j)) _ (SN k_25) (SZ k_25) r_26 hc_27) tw_35_11 tw_35_12 tw_35_13 tw_2_3 tw_35_14 hdX2_isMissing (25 + 2 * k_25) (wX_obj hk_25 g ad R1 R2 R3 K T SN SZ F) rfl rfl rfl ⟨Nat.le_of_ble_eq_true rfl, Nat.le_of_ble_eq_true rfl⟩ rfl hl.1 (rest := []) rfl (Nat.le_of_ble_eq_true rfl) dX5_write_22 ⟨Nat.zero_le _, Nat.zero_le _⟩) ?_
    refine lv_if_eq (tgt := 36) hx hb dX5_write_25 (by decide) (fun c_28 => ?_) (fun c_28 => ?_)
    · have hf := if_p hf c_28
      refine lv_iload_n hx hb dX5_write_36 rfl (lv_at hl 3 rfl) ?_
      refine lv_iconst (v := 0) hx hb dX5_write_37 (by decide) ?_
      refine lv_aload hx hb dX5_write_38 (lv_at hl 0 rfl) ?_
      refine gf_RX5_228 C hE hH (25 + 2 * k_25) (wX_obj hk_25 g ad R1 R2 R3 K T SN SZ F) rfl dX5_write_40 ?_
      refine lv_iconst (v := 1) hx hb dX5_write_43 (by decide) ?_
      refine lv_isub hx hb dX5_write_44 ?_
      obtain ⟨r_29, hc_30, hf⟩ := bind_inv hf
      refine aftPI (runS C hE hA hH [] rfl rfl (kX5_within l g ad _ x2 (0 : Int32) ((SZ k_25 1) - (1 : Int32)) r_29  hc_30) tw_4_14 tw_4_15 tw_1_2 tw_4_16 hdX5_within rfl rfl ⟨Nat.le_of_ble_eq_true rfl, Nat.le_of_ble_eq_true rfl⟩ rfl hl.1 (rest := []) rfl (Nat.le_of_ble_eq_true rfl) dX5_write_45 ⟨Nat.zero_le _, Nat.zero_le _⟩) ?_
      refine lv_if_ne (tgt := 59) hx hb dX5_write_48 (by decide) (fun c_31 => ?_) (fun c_31 => ?_)
      · have hf := if_n hf c_31
        refine lv_aload hx hb dX5_write_59 (lv_at hl 0 rfl) ?_
        refine gf_RX5_235 C hE hH (25 + 2 * k_25) (wX_obj hk_25 g ad R1 R2 R3 K T SN SZ F) rfl dX5_write_61 ?_
        refine lv_iload_n hx hb dX5_write_64 rfl (lv_at hl 3 rfl) ?_
        obtain ⟨hi_32, hf⟩ := grd_inv hf
        refine xlald C hE hH (26 + 2 * k_25) (wX_arr hk_25 g ad R1 R2 R3 K T SN SZ F) hi_32 dX5_write_65 ?_
        refine lv_topl (fun v_33 ev_33 => ?_)
        have hf := letb_at hf v_33 ev_33
        refine lv_lstore (lv' := [(6, .long v_33), (5, .ref (ad (25 + 2 * k_25))), (0, .ref (ad 0)), (1, .int x1), (2, .int x2), (3, .long x3)]) hx hb dX5_write_66 hl (by decide) rfl (fun ls hl => ?_)
        refine lv_aload hx hb dX5_write_68 (lv_at hl 1 rfl) ?_
        refine lv_iload_n hx hb dX5_write_70 rfl (lv_at hl 4 rfl) ?_
        refine lv_lload_n hx hb dX5_write_71 rfl (lv_at hl 5 rfl) ?_
        obtain ⟨B_34, hc_35, hf⟩ := bind_inv hf
        obtain ⟨isR, perm, wr, q1, q2, q3, q4, q5⟩ := sKsplit hk_25 g ad R1 R2 R3 K T SN SZ F
        refine aftV (runV C hE hA hH [25 + 2 * k_25, 26 + 2 * k_25] (nK hk_25) (sK hk_25 g ad R1 R2 R3 K T SN SZ F) (kX2_put l g (fun j => ad (25 + 2 * k_25 + j)) _ (SN k_25) (SZ k_25) x2 x3 B_34 hc_35) tw_35_15 tw_35_16 tw_35_17 tw_2_3 tw_35_18 hdX2_put (25 + 2 * k_25) (wX_obj hk_25 g ad R1 R2 R3 K T SN SZ F) rfl rfl rfl ⟨Nat.le_of_ble_eq_true rfl, Nat.le_of_ble_eq_true rfl⟩ rfl hl.1 (rest := []) rfl (Nat.le_of_ble_eq_true rfl) dX5_write_72 ⟨Nat.zero_le _, Nat.zero_le _⟩) hA hH [25 + 2 * k_25, 26 + 2 * k_25] isR (sK hk_25 g ad R1 R2 R3 K T SN SZ F) q1 q2 q3 perm q4 (q5 B_34 (SZ k_25)) (fun H locs hH => ?_)
        obtain ⟨SN_36, eSN_36⟩ : ∃ z : J2, z = st2 SN k_25 B_34 := ⟨_, rfl⟩
        rw [← eSN_36] at hH
        have hf := letb_at hf SN_36 eSN_36
        rw [st2_same] at hH
        refine lv_lload hx hb dX5_write_75 (lv_at hl 0 rfl) ?_
        have hf := Option.some.inj hf
        obtain ⟨h1, hf⟩ := Prod.mk.inj hf
        obtain ⟨h2, h3⟩ := Prod.mk.inj hf
        subst h1
        subst h2
        subst h3
        exact retJ C hH dX5_write_77
      · have hf := if_p hf c_31
        refine lv_aload_n hx hb dX5_write_51 rfl (lv_at hl 1 rfl) ?_
        refine lv_ldc hx hb hown (hT _ tw_4_12) dX5_write_52 ?_
        obtain ⟨r_38, F_39, hc_40, hf⟩ := bind2_inv hf
        refine aftI (runV C hE hA hH [0, 1, 2, 3, 4, 5, 6, 7, 8, 9, 10, 11, 12, 13, 14, 15, 16, 17, 18, 19, 20, 21, 22, 23, 24, 25, 26, 27, 28, 29, 30, 31, 32, 33] nC_X_X_0_33 (sC_X_X_0_33 g ad R1 R2 R3 K T SN SZ F) (kX5_tell l g ad _ R1 R2 R3 K T SN SZ F (-1000000001 : Int32) r_38 F_39  hc_40) tw_4_17 tw_4_18 tw_4_19 tw_1_2 tw_4_20 hdX5_tell 0 rfl rfl rfl rfl ⟨Nat.le_of_ble_eq_true rfl, Nat.le_of_ble_eq_true rfl⟩ rfl hl.1 (rest := []) rfl (Nat.le_of_ble_eq_true rfl) dX5_write_54 ⟨Nat.zero_le _, Nat.zero_le _⟩) hA hH [0, 1, 2, 3, 4, 5, 6, 7, 8, 9, 10, 11, 12, 13, 14, 15, 16, 17, 18, 19, 20, 21, 22, 23, 24, 25, 26, 27, 28, 29, 30, 31, 32, 33] [] (sC_X_X_0_33 g ad R1 R2 R3 K T SN SZ F) (sR_X_X_0_33 g ad R1 R2 R3 K T SN SZ F) nR_X_X_0_33 dj_X_X_0_33 [0, 1, 2, 3, 4, 5, 6, 7, 8, 9, 10, 11, 12, 13, 14, 15, 16, 17, 18, 19, 20, 21, 22, 23, 24, 25, 26, 27, 28, 29, 30, 31, 32, 33] nP_X_X_0_33 (sP_X_X_0_33 g ad R1 R2 R3 K T SN SZ F R1 R2 R3 K T SN SZ F_39) (fun H locs hH => ?_)
        refine lv_i2l hx hb dX5_write_57 rfl ?_
        have hf := Option.some.inj hf
        obtain ⟨h1, hf⟩ := Prod.mk.inj hf
        obtain ⟨h2, h3⟩ := Prod.mk.inj hf
        subst h1
        subst h2
        subst h3
        exact retJ C hH dX5_write_58
    · have hf := if_n hf c_28
      refine lv_aload_n hx hb dX5_write_28 rfl (lv_at hl 1 rfl) ?_
      refine lv_ldc hx hb hown (hT _ tw_35_9) dX5_write_29 ?_
      obtain ⟨r_41, F_42, hc_43, hf⟩ := bind2_inv hf
      refine aftI (runV C hE hA hH [0, 1, 2, 3, 4, 5, 6, 7, 8, 9, 10, 11, 12, 13, 14, 15, 16, 17, 18, 19, 20, 21, 22, 23, 24, 25, 26, 27, 28, 29, 30, 31, 32, 33] nC_X_X_0_33 (sC_X_X_0_33 g ad R1 R2 R3 K T SN SZ F) (kX5_tell l g ad _ R1 R2 R3 K T SN SZ F (-1000000006 : Int32) r_41 F_42  hc_43) tw_4_17 tw_4_18 tw_4_19 tw_1_2 tw_4_20 hdX5_tell 0 rfl rfl rfl rfl ⟨Nat.le_of_ble_eq_true rfl, Nat.le_of_ble_eq_true rfl⟩ rfl hl.1 (rest := []) rfl (Nat.le_of_ble_eq_true rfl) dX5_write_31 ⟨Nat.zero_le _, Nat.zero_le _⟩) hA hH [0, 1, 2, 3, 4, 5, 6, 7, 8, 9, 10, 11, 12, 13, 14, 15, 16, 17, 18, 19, 20, 21, 22, 23, 24, 25, 26, 27, 28, 29, 30, 31, 32, 33] [] (sC_X_X_0_33 g ad R1 R2 R3 K T SN SZ F) (sR_X_X_0_33 g ad R1 R2 R3 K T SN SZ F) nR_X_X_0_33 dj_X_X_0_33 [0, 1, 2, 3, 4, 5, 6, 7, 8, 9, 10, 11, 12, 13, 14, 15, 16, 17, 18, 19, 20, 21, 22, 23, 24, 25, 26, 27, 28, 29, 30, 31, 32, 33] nP_X_X_0_33 (sP_X_X_0_33 g ad R1 R2 R3 K T SN SZ F R1 R2 R3 K T SN SZ F_42) (fun H locs hH => ?_)
      refine lv_i2l hx hb dX5_write_34 rfl ?_
      have hf := Option.some.inj hf
      obtain ⟨h1, hf⟩ := Prod.mk.inj hf
      obtain ⟨h2, h3⟩ := Prod.mk.inj hf
      subst h1
      subst h2
      subst h3
      exact retJ C hH dX5_write_35
  · have hf := if_n hf c_24
    rw [shv, if_neg c_24]
    refine lv_astoreN (lv' := [(5, .null), (0, .ref (ad 0)), (1, .int x1), (2, .int x2), (3, .long x3)]) hx hb dX5_write_5 hl (by decide) rfl (fun ls hl => ?_)
    refine lv_aloadN hx hb dX5_write_7 (lv_at hl 0 rfl) ?_
    refine lv_ifnonnullN hx hb dX5_write_9 ?_
    refine lv_aload_n hx hb dX5_write_12 rfl (lv_at hl 1 rfl) ?_
    refine lv_ldc hx hb hown (hT _ tw_4_12) dX5_write_13 ?_
    obtain ⟨r_44, F_45, hc_46, hf⟩ := bind2_inv hf
    refine aftI (runV C hE hA hH [0, 1, 2, 3, 4, 5, 6, 7, 8, 9, 10, 11, 12, 13, 14, 15, 16, 17, 18, 19, 20, 21, 22, 23, 24, 25, 26, 27, 28, 29, 30, 31, 32, 33] nC_X_X_0_33 (sC_X_X_0_33 g ad R1 R2 R3 K T SN SZ F) (kX5_tell l g ad _ R1 R2 R3 K T SN SZ F (-1000000001 : Int32) r_44 F_45  hc_46) tw_4_17 tw_4_18 tw_4_19 tw_1_2 tw_4_20 hdX5_tell 0 rfl rfl rfl rfl ⟨Nat.le_of_ble_eq_true rfl, Nat.le_of_ble_eq_true rfl⟩ rfl hl.1 (rest := []) rfl (Nat.le_of_ble_eq_true rfl) dX5_write_15 ⟨Nat.zero_le _, Nat.zero_le _⟩) hA hH [0, 1, 2, 3, 4, 5, 6, 7, 8, 9, 10, 11, 12, 13, 14, 15, 16, 17, 18, 19, 20, 21, 22, 23, 24, 25, 26, 27, 28, 29, 30, 31, 32, 33] [] (sC_X_X_0_33 g ad R1 R2 R3 K T SN SZ F) (sR_X_X_0_33 g ad R1 R2 R3 K T SN SZ F) nR_X_X_0_33 dj_X_X_0_33 [0, 1, 2, 3, 4, 5, 6, 7, 8, 9, 10, 11, 12, 13, 14, 15, 16, 17, 18, 19, 20, 21, 22, 23, 24, 25, 26, 27, 28, 29, 30, 31, 32, 33] nP_X_X_0_33 (sP_X_X_0_33 g ad R1 R2 R3 K T SN SZ F R1 R2 R3 K T SN SZ F_45) (fun H locs hH => ?_)
    refine lv_i2l hx hb dX5_write_18 rfl ?_
    have hf := Option.some.inj hf
    obtain ⟨h1, hf⟩ := Prod.mk.inj hf
    obtain ⟨h2, h3⟩ := Prod.mk.inj hf
    subst h1
    subst h2
    subst h3
    exact retJ C hH dX5_write_19
def fX5_copy_c24  (R1 : M2) (R2 : M2) (R3 : M2) (K : Int32) (T : M2) (SN : J2) (SZ : M2) (F : M1) : Option (Int32 × J2 × M1) := bind2 (fX5_tell (-1000000001 : Int32) R1 R2 R3 K T SN SZ F) (fun (r_34 : Int32) (F_35 : M1) => some (r_34, SN, F_35))
def fX5_copy_c47  (R1 : M2) (R2 : M2) (R3 : M2) (K : Int32) (T : M2) (SN : J2) (SZ : M2) (F : M1) : Option (Int32 × J2 × M1) := bind2 (fX5_tell (-1000000006 : Int32) R1 R2 R3 K T SN SZ F) (fun (r_37 : Int32) (F_38 : M1) => some (r_37, SN, F_38))
def fX5_copy_c97  (R1 : M2) (R2 : M2) (R3 : M2) (K : Int32) (T : M2) (SN : J2) (SZ : M2) (F : M1) : Option (Int32 × J2 × M1) := bind2 (fX5_tell (-1000000001 : Int32) R1 R2 R3 K T SN SZ F) (fun (r_40 : Int32) (F_41 : M1) => some (r_40, SN, F_41))
def fX5_copy (x1 : Int32) (x2 : Int32) (x3 : Int32) (x4 : Int32) (x5 : Int32) (R1 : M2) (R2 : M2) (R3 : M2) (K : Int32) (T : M2) (SN : J2) (SZ : M2) (F : M1) : Option (Int32 × J2 × M1) := (if inb x1 4 = true then letb x1.toNatClampNeg (fun k_44 : Nat => (if inb x3 4 = true then letb x3.toNatClampNeg (fun k_46 : Nat => (fX2_isMissing (SN k_44) (SZ k_44)).bind (fun (r_47 : Int32) => (if r_47 = 0 then (fX2_isMissing (SN k_46) (SZ k_46)).bind (fun (r_50 : Int32) => (if r_50 = 0 then (if (SZ k_44 0) = (SZ k_46 0) then (fX2_hasRange x2 x5 (SN k_44) (SZ k_44)).bind (fun (r_54 : Int32) => (if r_54 = 0 then fX5_copy_c97  R1 R2 R3 K T SN SZ F else (fX2_hasRange x4 x5 (SN k_46) (SZ k_46)).bind (fun (r_57 : Int32) => (if r_57 = 0 then fX5_copy_c97  R1 R2 R3 K T SN SZ F else grd (cpok x2 x4 x5 40 40) (letb (st2 SN k_46 (va_cpy (SN k_44) (SN k_46) x2.toNatClampNeg x4.toNatClampNeg x5.toNatClampNeg)) (fun SN_60 : J2 => some (x5, SN_60, F))))))) else bind2 (fX5_tell (-1000000003 : Int32) R1 R2 R3 K T SN SZ F) (fun (r_62 : Int32) (F_63 : M1) => some (r_62, SN, F_63))) else fX5_copy_c47  R1 R2 R3 K T SN SZ F)) else fX5_copy_c47  R1 R2 R3 K T SN SZ F))) else fX5_copy_c24  R1 R2 R3 K T SN SZ F)) else (if inb x3 4 = true then letb x3.toNatClampNeg (fun k_66 : Nat => fX5_copy_c24  R1 R2 R3 K T SN SZ F) else fX5_copy_c24  R1 R2 R3 K T SN SZ F))
def rmX5_copy : Room := { frames := 2, cells := 0, slots := 0, locals := 44 }
theorem hdX5_copy : yX5_copy.cls = yX5_copy.cls ∧ yX5_copy.cls ≠ "java/lang/invoke/MethodHandle" ∧ yX5_copy.cls ≠ "java/lang/invoke/VarHandle" ∧ (parseMethodDescriptor yX5_copy.desc).map (fun d => d.parameters.length) = some 5 := by decide +kernel
set_option maxHeartbeats 4000000 in
set_option maxRecDepth 100000 in
theorem kX5_copy (l : Launch) (g : Gl) (ad : Nat → Nat) (sz : Nat) (R1 : M2) (R2 : M2) (R3 : M2) (K : Int32) (T : M2) (SN : J2) (SZ : M2) (F : M1) (x1 : Int32) (x2 : Int32) (x3 : Int32) (x4 : Int32) (x5 : Int32) (r : Int32) (SN' : J2) (F' : M1)  (hf : fX5_copy x1 x2 x3 x4 x5 R1 R2 R3 K T SN SZ F = some (r, SN', F')) : MetI l yX5_copy (Cond.code yX5_copy cX5_copy 8 (some .int) :: wsL_law) rmX5_copy [.ref (ad 0), .int x1, .int x2, .int x3, .int x4, .int x5] g (wX g ad R1 R2 R3 K T SN SZ F) sz r (wX g ad R1 R2 R3 K T SN' SZ F') := by
  refine openI (by decide +kernel) (Nat.le_of_ble_eq_true rfl) ?_
  intro p e s m args below meth c A C hE hA hH ls hl
  have hl : lv_has ls 8 [(0, .ref (ad 0)), (1, .int x1), (2, .int x2), (3, .int x3), (4, .int x4), (5, .int x5)] := hl
  have C : Cx p s m args meth c cX5_copy 8 (some .int) RX5 := C
  obtain ⟨hx, hb, hml, hown, hT, hr, hlk⟩ := id C
  rw [fX5_copy] at hf
  have j_24 : ∀ (SN : J2) (F : M1) (H : Heap) (locs : List Loc) (ls : Array Slot), fX5_copy_c24  R1 R2 R3 K T SN SZ F = some (r, SN', F') → Hp g A s H locs (wX g ad R1 R2 R3 K T SN SZ F) → lv_has ls 8 [(0, .ref (ad 0))] → W p l e rmX5_copy s m args below meth c H locs 0 0 (QI g A below args s r (wX g ad R1 R2 R3 K T SN' SZ F')) (F0 m 24 ls []) := by
    intro SN F H locs  ls hf hH hl
    rw [fX5_copy_c24] at hf
    refine lv_aload_n hx hb dX5_copy_24 rfl (lv_at hl 0 rfl) ?_
    refine lv_ldc hx hb hown (hT _ tw_4_12) dX5_copy_25 ?_
    obtain ⟨r_34, F_35, hc_36, hf⟩ := bind2_inv hf
    refine aftI (runV C hE hA hH [0, 1, 2, 3, 4, 5, 6, 7, 8, 9, 10, 11, 12, 13, 14, 15, 16, 17, 18, 19, 20, 21, 22, 23, 24, 25, 26, 27, 28, 29, 30, 31, 32, 33] nC_X_X_0_33 (sC_X_X_0_33 g ad R1 R2 R3 K T SN SZ F) (kX5_tell l g ad _ R1 R2 R3 K T SN SZ F (-1000000001 : Int32) r_34 F_35  hc_36) tw_4_17 tw_4_18 tw_4_19 tw_1_2 tw_4_20 hdX5_tell 0 rfl rfl rfl rfl ⟨Nat.le_of_ble_eq_true rfl, Nat.le_of_ble_eq_true rfl⟩ rfl hl.1 (rest := []) rfl (Nat.le_of_ble_eq_true rfl) dX5_copy_27 ⟨Nat.zero_le _, Nat.zero_le _⟩) hA hH [0, 1, 2, 3, 4, 5, 6, 7, 8, 9, 10, 11, 12, 13, 14, 15, 16, 17, 18, 19, 20, 21, 22, 23, 24, 25, 26, 27, 28, 29, 30, 31, 32, 33] [] (sC_X_X_0_33 g ad R1 R2 R3 K T SN SZ F) (sR_X_X_0_33 g ad R1 R2 R3 K T SN SZ F) nR_X_X_0_33 dj_X_X_0_33 [0, 1, 2, 3, 4, 5, 6, 7, 8, 9, 10, 11, 12, 13, 14, 15, 16, 17, 18, 19, 20, 21, 22, 23, 24, 25, 26, 27, 28, 29, 30, 31, 32, 33] nP_X_X_0_33 (sP_X_X_0_33 g ad R1 R2 R3 K T SN SZ F R1 R2 R3 K T SN SZ F_35) (fun H locs hH => ?_)
    have hf := Option.some.inj hf
    obtain ⟨h1, hf⟩ := Prod.mk.inj hf
    obtain ⟨h2, h3⟩ := Prod.mk.inj hf
    subst h1
    subst h2
    subst h3
    exact retI C hH rfl dX5_copy_30
  have j_47 : ∀ (SN : J2) (F : M1) (H : Heap) (locs : List Loc) (ls : Array Slot), fX5_copy_c47  R1 R2 R3 K T SN SZ F = some (r, SN', F') → Hp g A s H locs (wX g ad R1 R2 R3 K T SN SZ F) → lv_has ls 8 [(0, .ref (ad 0))] → W p l e rmX5_copy s m args below meth c H locs 0 0 (QI g A below args s r (wX g ad R1 R2 R3 K T SN' SZ F')) (F0 m 47 ls []) := by
    intro SN F H locs  ls hf hH hl
    rw [fX5_copy_c47] at hf
    refine lv_aload_n hx hb dX5_copy_47 rfl (lv_at hl 0 rfl) ?_
    refine lv_ldc hx hb hown (hT _ tw_35_9) dX5_copy_48 ?_
    obtain ⟨r_37, F_38, hc_39, hf⟩ := bind2_inv hf
    refine aftI (runV C hE hA hH [0, 1, 2, 3, 4, 5, 6, 7, 8, 9, 10, 11, 12, 13, 14, 15, 16, 17, 18, 19, 20, 21, 22, 23, 24, 25, 26, 27, 28, 29, 30, 31, 32, 33] nC_X_X_0_33 (sC_X_X_0_33 g ad R1 R2 R3 K T SN SZ F) (kX5_tell l g ad _ R1 R2 R3 K T SN SZ F (-1000000006 : Int32) r_37 F_38  hc_39) tw_4_17 tw_4_18 tw_4_19 tw_1_2 tw_4_20 hdX5_tell 0 rfl rfl rfl rfl ⟨Nat.le_of_ble_eq_true rfl, Nat.le_of_ble_eq_true rfl⟩ rfl hl.1 (rest := []) rfl (Nat.le_of_ble_eq_true rfl) dX5_copy_50 ⟨Nat.zero_le _, Nat.zero_le _⟩) hA hH [0, 1, 2, 3, 4, 5, 6, 7, 8, 9, 10, 11, 12, 13, 14, 15, 16, 17, 18, 19, 20, 21, 22, 23, 24, 25, 26, 27, 28, 29, 30, 31, 32, 33] [] (sC_X_X_0_33 g ad R1 R2 R3 K T SN SZ F) (sR_X_X_0_33 g ad R1 R2 R3 K T SN SZ F) nR_X_X_0_33 dj_X_X_0_33 [0, 1, 2, 3, 4, 5, 6, 7, 8, 9, 10, 11, 12, 13, 14, 15, 16, 17, 18, 19, 20, 21, 22, 23, 24, 25, 26, 27, 28, 29, 30, 31, 32, 33] nP_X_X_0_33 (sP_X_X_0_33 g ad R1 R2 R3 K T SN SZ F R1 R2 R3 K T SN SZ F_38) (fun H locs hH => ?_)
    have hf := Option.some.inj hf
    obtain ⟨h1, hf⟩ := Prod.mk.inj hf
    obtain ⟨h2, h3⟩ := Prod.mk.inj hf
    subst h1
    subst h2
    subst h3
    exact retI C hH rfl dX5_copy_53
  have j_97 : ∀ (SN : J2) (F : M1) (H : Heap) (locs : List Loc) (ls : Array Slot), fX5_copy_c97  R1 R2 R3 K T SN SZ F = some (r, SN', F') → Hp g A s H locs (wX g ad R1 R2 R3 K T SN SZ F) → lv_has ls 8 [(0, .ref (ad 0))] → W p l e rmX5_copy s m args below meth c H locs 0 0 (QI g A below args s r (wX g ad R1 R2 R3 K T SN' SZ F')) (F0 m 97 ls []) := by
    intro SN F H locs  ls hf hH hl
    rw [fX5_copy_c97] at hf
    refine lv_aload_n hx hb dX5_copy_97 rfl (lv_at hl 0 rfl) ?_
    refine lv_ldc hx hb hown (hT _ tw_4_12) dX5_copy_98 ?_
    obtain ⟨r_40, F_41, hc_42, hf⟩ := bind2_inv hf
    refine aftI (runV C hE hA hH [0, 1, 2, 3, 4, 5, 6, 7, 8, 9, 10, 11, 12, 13, 14, 15, 16, 17, 18, 19, 20, 21, 22, 23, 24, 25, 26, 27, 28, 29, 30, 31, 32, 33] nC_X_X_0_33 (sC_X_X_0_33 g ad R1 R2 R3 K T SN SZ F) (kX5_tell l g ad _ R1 R2 R3 K T SN SZ F (-1000000001 : Int32) r_40 F_41  hc_42) tw_4_17 tw_4_18 tw_4_19 tw_1_2 tw_4_20 hdX5_tell 0 rfl rfl rfl rfl ⟨Nat.le_of_ble_eq_true rfl, Nat.le_of_ble_eq_true rfl⟩ rfl hl.1 (rest := []) rfl (Nat.le_of_ble_eq_true rfl) dX5_copy_100 ⟨Nat.zero_le _, Nat.zero_le _⟩) hA hH [0, 1, 2, 3, 4, 5, 6, 7, 8, 9, 10, 11, 12, 13, 14, 15, 16, 17, 18, 19, 20, 21, 22, 23, 24, 25, 26, 27, 28, 29, 30, 31, 32, 33] [] (sC_X_X_0_33 g ad R1 R2 R3 K T SN SZ F) (sR_X_X_0_33 g ad R1 R2 R3 K T SN SZ F) nR_X_X_0_33 dj_X_X_0_33 [0, 1, 2, 3, 4, 5, 6, 7, 8, 9, 10, 11, 12, 13, 14, 15, 16, 17, 18, 19, 20, 21, 22, 23, 24, 25, 26, 27, 28, 29, 30, 31, 32, 33] nP_X_X_0_33 (sP_X_X_0_33 g ad R1 R2 R3 K T SN SZ F R1 R2 R3 K T SN SZ F_41) (fun H locs hH => ?_)
    have hf := Option.some.inj hf
    obtain ⟨h1, hf⟩ := Prod.mk.inj hf
    obtain ⟨h2, h3⟩ := Prod.mk.inj hf
    subst h1
    subst h2
    subst h3
    exact retI C hH rfl dX5_copy_103
  refine lv_aload_n hx hb dX5_copy_0 rfl (lv_at hl 0 rfl) ?_
  refine lv_iload_n hx hb dX5_copy_1 rfl (lv_at hl 1 rfl) ?_
  refine aftPA (runV C hE hA hH [0, 1, 2, 3, 4, 5, 6, 7, 8, 9, 10, 11, 12, 13, 14, 15, 16, 17, 18, 19, 20, 21, 22, 23, 24, 25, 26, 27, 28, 29, 30, 31, 32, 33] nC_X_X_0_33 (sC_X_X_0_33 g ad R1 R2 R3 K T SN SZ F) (kX5_sheetAt l g ad _ R1 R2 R3 K T SN SZ F x1) tw_34_6 tw_34_7 tw_34_8 tw_1_2 tw_34_9 hdX5_sheetAt 0 rfl rfl rfl rfl ⟨Nat.le_of_ble_eq_true rfl, Nat.le_of_ble_eq_true rfl⟩ rfl hl.1 (rest := []) rfl (Nat.le_of_ble_eq_true rfl) dX5_copy_2 ⟨Nat.zero_le _, Nat.zero_le _⟩) ?_
  by_cases c_43 : inb x1 4 = true
  · have hf := if_p hf c_43
    rw [shv, if_pos c_43]
    have hk_44 : x1.toNatClampNeg < 4 := Nat.not_le.mp fun q => inb_in c_43 (Or.inr q)
    generalize ek_44 : x1.toNatClampNeg = k_44 at hk_44 ⊢
    have hf := letb_at hf k_44 ek_44.symm
    refine lv_astore (lv' := [(6, .ref (ad (25 + 2 * k_44))), (0, .ref (ad 0)), (1, .int x1), (2, .int x2), (3, .int x3), (4, .int x4), (5, .int x5)]) hx hb dX5_copy_5 hl (by decide) rfl (fun ls hl => ?_)
    refine lv_aload_n hx hb dX5_copy_7 rfl (lv_at hl 1 rfl) ?_
    refine lv_iload_n hx hb dX5_copy_8 rfl (lv_at hl 4 rfl) ?_
    refine aftPA (runV C hE hA hH [0, 1, 2, 3, 4, 5, 6, 7, 8, 9, 10, 11, 12, 13, 14, 15, 16, 17, 18, 19, 20, 21, 22, 23, 24, 25, 26, 27, 28, 29, 30, 31, 32, 33] nC_X_X_0_33 (sC_X_X_0_33 g ad R1 R2 R3 K T SN SZ F) (kX5_sheetAt l g ad _ R1 R2 R3 K T SN SZ F x3) tw_34_6 tw_34_7 tw_34_8 tw_1_2 tw_34_9 hdX5_sheetAt 0 rfl rfl rfl rfl ⟨Nat.le_of_ble_eq_true rfl, Nat.le_of_ble_eq_true rfl⟩ rfl hl.1 (rest := []) rfl (Nat.le_of_ble_eq_true rfl) dX5_copy_9 ⟨Nat.zero_le _, Nat.zero_le _⟩) ?_
    by_cases c_45 : inb x3 4 = true
    · have hf := if_p hf c_45
      rw [shv, if_pos c_45]
      have hk_46 : x3.toNatClampNeg < 4 := Nat.not_le.mp fun q => inb_in c_45 (Or.inr q)
      generalize ek_46 : x3.toNatClampNeg = k_46 at hk_46 ⊢
      have hf := letb_at hf k_46 ek_46.symm
      refine lv_astore (lv' := [(7, .ref (ad (25 + 2 * k_46))), (6, .ref (ad (25 + 2 * k_44))), (0, .ref (ad 0)), (1, .int x1), (2, .int x2), (3, .int x3), (4, .int x4), (5, .int x5)]) hx hb dX5_copy_12 hl (by decide) rfl (fun ls hl => ?_)
      refine lv_aload hx hb dX5_copy_14 (lv_at hl 1 rfl) ?_
      refine lv_ifnull hx hb dX5_copy_16 ?_
      refine lv_aload hx hb dX5_copy_19 (lv_at hl 0 rfl) ?_
      refine lv_ifnonnull (tgt := 31) hx hb dX5_copy_21 (by decide) ?_
      refine lv_aload hx hb dX5_copy_31 (lv_at hl 1 rfl) ?_
      obtain ⟨r_47, hc_48, hf⟩ := bind_inv hf
      refine aftPI (runV C hE hA hH [25 + 2 * k_44, 26 + 2 * k_44] (nK hk_44) (sK hk_44 g ad R1 R2 R3 K T SN SZ F) (kX2_isMissing l g (fun j => ad (25 + 2 * k_44 + j)) _ (SN k_44) (SZ k_44) r_47 hc_48) tw_35_11 tw_35_12 tw_35_13 tw_2_3 tw_35_14 hdX2_isMissing (25 + 2 * k_44) (wX_obj hk_44 g ad R1 R2 R3 K T SN SZ F) rfl rfl rfl ⟨Nat.le_of_ble_eq_true rfl, Nat.le_of_ble_eq_true rfl⟩ rfl hl.1 (rest := []) rfl (Nat.le_of_ble_eq_true rfl) dX5_copy_33 ⟨Nat.zero_le _, Nat.zero_le _⟩) ?_
      refine lv_if_ne (tgt := 47) hx hb dX5_copy_36 (by decide) (fun c_49 => ?_) (fun c_49 => ?_)
      · have hf := if_n hf c_49
        exact j_47 SN F _ _ ls hf hH (lv_sub hl [2] rfl)
      · have hf := if_p hf c_49
        refine lv_aload hx hb dX5_copy_39 (lv_at hl 0 rfl) ?_
        obtain ⟨r_50, hc_51, hf⟩ := bind_inv hf
        refine aftPI (runV C hE hA hH [25 + 2 * k_46, 26 + 2 * k_46] (nK hk_46) (sK hk_46 g ad R1 R2 R3 K T SN SZ F) (kX2_isMissing l g (fun j => ad (25 + 2 * k_46 + j)) _ (SN k_46) (SZ k_46) r_50 hc_51) tw_35_11 tw_35_12 tw_35_13 tw_2_3 tw_35_14 hdX2_isMissing (25 + 2 * k_46) (wX_obj hk_46 g ad R1 R2 R3 K T SN SZ F) rfl rfl rfl ⟨Nat.le_of_ble_eq_true rfl, Nat.le_of_ble_eq_true rfl⟩ rfl hl.1 (rest := []) rfl (Nat.le_of_ble_eq_true rfl) dX5_copy_41 ⟨Nat.zero_le _, Nat.zero_le _⟩) ?_
        refine lv_if_eq (tgt := 54) hx hb dX5_copy_44 (by decide) (fun c_52 => ?_) (fun c_52 => ?_)
        · have hf := if_p hf c_52
          refine lv_aload hx hb dX5_copy_54 (lv_at hl 1 rfl) ?_
          refine gf_RX5_243 C hE hH (25 + 2 * k_44) (wX_obj hk_44 g ad R1 R2 R3 K T SN SZ F) rfl dX5_copy_56 ?_
          refine lv_aload hx hb dX5_copy_59 (lv_at hl 0 rfl) ?_
          refine gf_RX5_243 C hE hH (25 + 2 * k_46) (wX_obj hk_46 g ad R1 R2 R3 K T SN SZ F) rfl dX5_copy_61 ?_
          refine lv_icmp_eq (tgt := 74) hx hb dX5_copy_64 (by decide) (fun c_53 => ?_) (fun c_53 => ?_)
          · have hf := if_p hf c_53
            refine lv_aload hx hb dX5_copy_74 (lv_at hl 1 rfl) ?_
            refine lv_iload_n hx hb dX5_copy_76 rfl (lv_at hl 4 rfl) ?_
            refine lv_iload hx hb dX5_copy_77 (lv_at hl 7 rfl) ?_
            obtain ⟨r_54, hc_55, hf⟩ := bind_inv hf
            refine aftPI (runV C hE hA hH [25 + 2 * k_44, 26 + 2 * k_44] (nK hk_44) (sK hk_44 g ad R1 R2 R3 K T SN SZ F) (kX2_hasRange l g (fun j => ad (25 + 2 * k_44 + j)) _ (SN k_44) (SZ k_44) x2 x5 r_54 hc_55) tw_36_9 tw_36_10 tw_36_11 tw_2_3 tw_36_12 hdX2_hasRange (25 + 2 * k_44) (wX_obj hk_44 g ad R1 R2 R3 K T SN SZ F) rfl rfl rfl ⟨Nat.le_of_ble_eq_true rfl, Nat.le_of_ble_eq_true rfl⟩ rfl hl.1 (rest := []) rfl (Nat.le_of_ble_eq_true rfl) dX5_copy_79 ⟨Nat.zero_le _, Nat.zero_le _⟩) ?_
            refine lv_if_eq (tgt := 97) hx hb dX5_copy_82 (by decide) (fun c_56 => ?_) (fun c_56 => ?_)
            · have hf := if_p hf c_56
              exact j_97 SN F _ _ ls hf hH (lv_sub hl [2] rfl)
            · have hf := if_n hf c_56
              refine lv_aload hx hb dX5_copy_85 (lv_at hl 0 rfl) ?_
              refine lv_iload hx hb dX5_copy_87 (lv_at hl 6 rfl) ?_
              refine lv_iload hx hb dX5_copy_89 (lv_at hl 7 rfl) ?_
              obtain ⟨r_57, hc_58, hf⟩ := bind_inv hf
              refine aftPI (runV C hE hA hH [25 + 2 * k_46, 26 + 2 * k_46] (nK hk_46) (sK hk_46 g ad R1 R2 R3 K T SN SZ F) (kX2_hasRange l g (fun j => ad (25 + 2 * k_46 + j)) _ (SN k_46) (SZ k_46) x4 x5 r_57 hc_58) tw_36_9 tw_36_10 tw_36_11 tw_2_3 tw_36_12 hdX2_hasRange (25 + 2 * k_46) (wX_obj hk_46 g ad R1 R2 R3 K T SN SZ F) rfl rfl rfl ⟨Nat.le_of_ble_eq_true rfl, Nat.le_of_ble_eq_true rfl⟩ rfl hl.1 (rest := []) rfl (Nat.le_of_ble_eq_true rfl) dX5_copy_91 ⟨Nat.zero_le _, Nat.zero_le _⟩) ?_
              refine lv_if_ne (tgt := 104) hx hb dX5_copy_94 (by decide) (fun c_59 => ?_) (fun c_59 => ?_)
              · have hf := if_n hf c_59
                refine lv_aload hx hb dX5_copy_104 (lv_at hl 1 rfl) ?_
                refine gf_RX5_235 C hE hH (25 + 2 * k_44) (wX_obj hk_44 g ad R1 R2 R3 K T SN SZ F) rfl dX5_copy_106 ?_
                refine lv_iload_n hx hb dX5_copy_109 rfl (lv_at hl 4 rfl) ?_
                refine lv_aload hx hb dX5_copy_110 (lv_at hl 0 rfl) ?_
                refine gf_RX5_235 C hE hH (25 + 2 * k_46) (wX_obj hk_46 g ad R1 R2 R3 K T SN SZ F) rfl dX5_copy_112 ?_
                refine lv_iload hx hb dX5_copy_115 (lv_at hl 6 rfl) ?_
                refine lv_iload hx hb dX5_copy_117 (lv_at hl 7 rfl) ?_
                obtain ⟨hi_61, hf⟩ := grd_inv hf
                refine xcopyl C hE hH hl.1 tw_36_8 tw_18_23 tw_19_0 tw_19_1 (26 + 2 * k_44) (26 + 2 * k_46) (wX_arr hk_44 g ad R1 R2 R3 K T SN SZ F) (wX_arr hk_46 g ad R1 R2 R3 K T SN SZ F) hi_61 (Nat.le_of_ble_eq_true rfl) (Nat.le_of_ble_eq_true rfl) (fun q : J2 => wX g ad R1 R2 R3 K T q SZ F) (st2 SN k_46 (va_cpy (SN k_44) (SN k_46) x2.toNatClampNeg x4.toNatClampNeg x5.toNatClampNeg)) (wX_setArr hk_46 g ad R1 R2 R3 K T SN SZ F _) dX5_copy_119 (fun SN_60 eSN_60 H locs hH => ?_)
                have hf := letb_at hf SN_60 eSN_60
                refine lv_iload hx hb dX5_copy_122 (lv_at hl 7 rfl) ?_
                have hf := Option.some.inj hf
                obtain ⟨h1, hf⟩ := Prod.mk.inj hf
                obtain ⟨h2, h3⟩ := Prod.mk.inj hf
                subst h1
                subst h2
                subst h3
                exact retI C hH rfl dX5_copy_124
              · have hf := if_p hf c_59
                exact j_97 SN F _ _ ls hf hH (lv_sub hl [2] rfl)
          · have hf := if_n hf c_53
            refine lv_aload_n hx hb dX5_copy_67 rfl (lv_at hl 2 rfl) ?_
            refine lv_ldc hx hb hown (hT _ tw_13_12) dX5_copy_68 ?_
            obtain ⟨r_62, F_63, hc_64, hf⟩ := bind2_inv hf
            refine aftI (runV C hE hA hH [0, 1, 2, 3, 4, 5, 6, 7, 8, 9, 10, 11, 12, 13, 14, 15, 16, 17, 18, 19, 20, 21, 22, 23, 24, 25, 26, 27, 28, 29, 30, 31, 32, 33] nC_X_X_0_33 (sC_X_X_0_33 g ad R1 R2 R3 K T SN SZ F) (kX5_tell l g ad _ R1 R2 R3 K T SN SZ F (-1000000003 : Int32) r_62 F_63  hc_64) tw_4_17 tw_4_18 tw_4_19 tw_1_2 tw_4_20 hdX5_tell 0 rfl rfl rfl rfl ⟨Nat.le_of_ble_eq_true rfl, Nat.le_of_ble_eq_true rfl⟩ rfl hl.1 (rest := []) rfl (Nat.le_of_ble_eq_true rfl) dX5_copy_70 ⟨Nat.zero_le _, Nat.zero_le _⟩) hA hH [0, 1, 2, 3, 4, 5, 6, 7, 8, 9, 10, 11, 12, 13, 14, 15, 16, 17, 18, 19, 20, 21, 22, 23, 24, 25, 26, 27, 28, 29, 30, 31, 32, 33] [] (sC_X_X_0_33 g ad R1 R2 R3 K T SN SZ F) (sR_X_X_0_33 g ad R1 R2 R3 K T SN SZ F) nR_X_X_0_33 dj_X_X_0_33 [0, 1, 2, 3, 4, 5, 6, 7, 8, 9, 10, 11, 12, 13, 14, 15, 16, 17, 18, 19, 20, 21, 22, 23, 24, 25, 26, 27, 28, 29, 30, 31, 32, 33] nP_X_X_0_33 (sP_X_X_0_33 g ad R1 R2 R3 K T SN SZ F R1 R2 R3 K T SN SZ F_63) (fun H locs hH => ?_)
            have hf := Option.some.inj hf
            obtain ⟨h1, hf⟩ := Prod.mk.inj hf
            obtain ⟨h2, h3⟩ := Prod.mk.inj hf
            subst h1
            subst h2
            subst h3
            exact retI C hH rfl dX5_copy_73
        · have hf := if_n hf c_52
          exact j_47 SN F _ _ ls hf hH (lv_sub hl [2] rfl)
    · have hf := if_n hf c_45
      rw [shv, if_neg c_45]
      refine lv_astoreN (lv' := [(7, .null), (6, .ref (ad (25 + 2 * k_44))), (0, .ref (ad 0)), (1, .int x1), (2, .int x2), (3, .int x3), (4, .int x4), (5, .int x5)]) hx hb dX5_copy_12 hl (by decide) rfl (fun ls hl => ?_)
      refine lv_aload hx hb dX5_copy_14 (lv_at hl 1 rfl) ?_
      refine lv_ifnull hx hb dX5_copy_16 ?_
      refine lv_aloadN hx hb dX5_copy_19 (lv_at hl 0 rfl) ?_
      refine lv_ifnonnullN hx hb dX5_copy_21 ?_
      exact j_24 SN F _ _ ls hf hH (lv_sub hl [2] rfl)
  · have hf := if_n hf c_43
    rw [shv, if_neg c_43]
    refine lv_astoreN (lv' := [(6, .null), (0, .ref (ad 0)), (1, .int x1), (2, .int x2), (3, .int x3), (4, .int x4), (5, .int x5)]) hx hb dX5_copy_5 hl (by decide) rfl (fun ls hl => ?_)
    refine lv_aload_n hx hb dX5_copy_7 rfl (lv_at hl 1 rfl) ?_
    refine lv_iload_n hx hb dX5_copy_8 rfl (lv_at hl 4 rfl) ?_
    refine aftPA (runV C hE hA hH [0, 1, 2, 3, 4, 5, 6, 7, 8, 9, 10, 11, 12, 13, 14, 15, 16, 17, 18, 19, 20, 21, 22, 23, 24, 25, 26, 27, 28, 29, 30, 31, 32, 33] nC_X_X_0_33 (sC_X_X_0_33 g ad R1 R2 R3 K T SN SZ F) (kX5_sheetAt l g ad _ R1 R2 R3 K T SN SZ F x3) tw_34_6 tw_34_7 tw_34_8 tw_1_2 tw_34_9 hdX5_sheetAt 0 rfl rfl rfl rfl ⟨Nat.le_of_ble_eq_true rfl, Nat.le_of_ble_eq_true rfl⟩ rfl hl.1 (rest := []) rfl (Nat.le_of_ble_eq_true rfl) dX5_copy_9 ⟨Nat.zero_le _, Nat.zero_le _⟩) ?_
    by_cases c_65 : inb x3 4 = true
    · have hf := if_p hf c_65
      rw [shv, if_pos c_65]
      have hk_66 : x3.toNatClampNeg < 4 := Nat.not_le.mp fun q => inb_in c_65 (Or.inr q)
      generalize ek_66 : x3.toNatClampNeg = k_66 at hk_66 ⊢
      have hf := letb_at hf k_66 ek_66.symm
      refine lv_astore (lv' := [(7, .ref (ad (25 + 2 * k_66))), (6, .null), (0, .ref (ad 0)), (1, .int x1), (2, .int x2), (3, .int x3), (4, .int x4), (5, .int x5)]) hx hb dX5_copy_12 hl (by decide) rfl (fun ls hl => ?_)
      refine lv_aloadN hx hb dX5_copy_14 (lv_at hl 1 rfl) ?_
      refine lv_ifnullN (tgt := 24) hx hb dX5_copy_16 (by decide) ?_
      exact j_24 SN F _ _ ls hf hH (lv_sub hl [2] rfl)
    · have hf := if_n hf c_65
      rw [shv, if_neg c_65]
      refine lv_astoreN (lv' := [(7, .null), (6, .null), (0, .ref (ad 0)), (1, .int x1), (2, .int x2), (3, .int x3), (4, .int x4), (5, .int x5)]) hx hb dX5_copy_12 hl (by decide) rfl (fun ls hl => ?_)
      refine lv_aloadN hx hb dX5_copy_14 (lv_at hl 1 rfl) ?_
      refine lv_ifnullN (tgt := 24) hx hb dX5_copy_16 (by decide) ?_
      exact j_24 SN F _ _ ls hf hH (lv_sub hl [2] rfl)
def fX5_lays_c99  (y3 : Int32) (R1 : M2) (R2 : M2) (R3 : M2) (K : Int32) (T : M2) (SN : J2) (SZ : M2) (F : M1) : Option (Int32 × M2 × M1) := some (y3, R1, F)
def fX5_lays_c93 (k_36 : Nat → Int32 → Int32 → M2 → M2 → M2 → Int32 → M2 → J2 → M2 → M1 → Option (Int32 × M2 × M1)) (kk2 : Nat) (y3 : Int32) (y4 : Int32) (R1 : M2) (R2 : M2) (R3 : M2) (K : Int32) (T : M2) (SN : J2) (SZ : M2) (F : M1) : Option (Int32 × M2 × M1) := letb (y4 + (1 : Int32)) (fun v_22 : Int32 => k_36 kk2 y3 v_22 R1 R2 R3 K T SN SZ F)
def fX5_lays_c36  : Nat → Nat → Int32 → Int32 → M2 → M2 → M2 → Int32 → M2 → J2 → M2 → M1 → Option (Int32 × M2 × M1)
  | 0, _, _, _, _, _, _, _, _, _, _, _ => none
  | n + 1, kk2, y3, y4, R1, R2, R3, K, T, SN, SZ, F => (if (SZ kk2 1) ≤ y4 then fX5_lays_c99  y3 R1 R2 R3 K T SN SZ F else (if (28 : Int32) ≤ y4 then fX5_lays_c99  y3 R1 R2 R3 K T SN SZ F else grd (inb y4 40) (letb (SN kk2 y4.toNatClampNeg) (fun v_26 : Int64 => (if (lg_cmp v_26 (0 : Int64)) < 0 then fX5_lays_c93 (fX5_lays_c36 n) kk2 y3 y4 R1 R2 R3 K T SN SZ F else (if 0 < (lg_cmp v_26 (12 : Int64)) then fX5_lays_c93 (fX5_lays_c36 n) kk2 y3 y4 R1 R2 R3 K T SN SZ F else grd (inb y4 28) (letb (st2 R1 1 (upd (R1 1) y4.toNatClampNeg (v_26.toInt32))) (fun R1_30 : M2 => letb (y3 + (1 : Int32)) (fun v_31 : Int32 => fX5_lays_c93 (fX5_lays_c36 n) kk2 v_31 y4 R1_30 R2 R3 K T SN SZ F)))))))))
def fX5_lays (x1 : Int32) (R1 : M2) (R2 : M2) (R3 : M2) (K : Int32) (T : M2) (SN : J2) (SZ : M2) (F : M1) : Option (Int32 × M2 × M1) := (if inb x1 4 = true then letb x1.toNatClampNeg (fun k_33 : Nat => (fX2_isMissing (SN k_33) (SZ k_33)).bind (fun (r_34 : Int32) => (if r_34 = 0 then fX5_lays_c36  FU k_33 (0 : Int32) (0 : Int32) R1 R2 R3 K T SN SZ F else bind2 (fX5_tell (-1000000006 : Int32) R1 R2 R3 K T SN SZ F) (fun (r_37 : Int32) (F_38 : M1) => some (r_37, R1, F_38))))) else bind2 (fX5_tell (-1000000001 : Int32) R1 R2 R3 K T SN SZ F) (fun (r_40 : Int32) (F_41 : M1) => some (r_40, R1, F_41)))
def rmX5_lays : Room := { frames := 2, cells := 0, slots := 0, locals := 44 }
theorem hdX5_lays : yX5_lays.cls = yX5_lays.cls ∧ yX5_lays.cls ≠ "java/lang/invoke/MethodHandle" ∧ yX5_lays.cls ≠ "java/lang/invoke/VarHandle" ∧ (parseMethodDescriptor yX5_lays.desc).map (fun d => d.parameters.length) = some 1 := by decide +kernel
set_option maxHeartbeats 4000000 in
set_option maxRecDepth 100000 in
theorem kX5_lays (l : Launch) (g : Gl) (ad : Nat → Nat) (sz : Nat) (R1 : M2) (R2 : M2) (R3 : M2) (K : Int32) (T : M2) (SN : J2) (SZ : M2) (F : M1) (x1 : Int32) (r : Int32) (R1' : M2) (F' : M1)  (hf : fX5_lays x1 R1 R2 R3 K T SN SZ F = some (r, R1', F')) : MetI l yX5_lays (Cond.code yX5_lays cX5_lays 7 (some .int) :: wsL_law) rmX5_lays [.ref (ad 0), .int x1] g (wX g ad R1 R2 R3 K T SN SZ F) sz r (wX g ad R1' R2 R3 K T SN SZ F') := by
  refine openI (by decide +kernel) (Nat.le_of_ble_eq_true rfl) ?_
  intro p e s m args below meth c A C hE hA hH ls hl
  have hl : lv_has ls 7 [(0, .ref (ad 0)), (1, .int x1)] := hl
  have C : Cx p s m args meth c cX5_lays 7 (some .int) RX5 := C
  obtain ⟨hx, hb, hml, hown, hT, hr, hlk⟩ := id C
  rw [fX5_lays] at hf
  have lp_36 : ∀ (n_36 : Nat) (kk2 : Nat) (hkk2 : kk2 < 4) (y3 : Int32) (y4 : Int32) (R1 : M2) (F : M1) (H : Heap) (locs : List Loc) (ls : Array Slot), fX5_lays_c36  n_36 kk2 y3 y4 R1 R2 R3 K T SN SZ F = some (r, R1', F') → Hp g A s H locs (wX g ad R1 R2 R3 K T SN SZ F) → lv_has ls 7 [(0, .ref (ad 0)), (2, .ref (ad (25 + 2 * kk2))), (3, .int y3), (4, .int y4)] → W p l e rmX5_lays s m args below meth c H locs 0 0 (QI g A below args s r (wX g ad R1' R2 R3 K T SN SZ F')) (F0 m 36 ls []) := by
    intro n_36
    induction n_36 with
    | zero =>
      intro kk2 hkk2 y3 y4 R1 F H locs  ls hf hH hl
      rw [fX5_lays_c36] at hf
      cases hf
    | succ n_36 ih_36 =>
      intro kk2 hkk2 y3 y4 R1 F H locs  ls hf hH hl
      rw [fX5_lays_c36] at hf
      have j_99 : ∀ (y3 : Int32) (R1 : M2) (F : M1) (H : Heap) (locs : List Loc) (ls : Array Slot), fX5_lays_c99  y3 R1 R2 R3 K T SN SZ F = some (r, R1', F') → Hp g A s H locs (wX g ad R1 R2 R3 K T SN SZ F) → lv_has ls 7 [(3, .int y3)] → W p l e rmX5_lays s m args below meth c H locs 0 0 (QI g A below args s r (wX g ad R1' R2 R3 K T SN SZ F')) (F0 m 99 ls []) := by
        intro y3 R1 F H locs  ls hf hH hl
        rw [fX5_lays_c99] at hf
        refine lv_iload_n hx hb dX5_lays_99 rfl (lv_at hl 0 rfl) ?_
        have hf := Option.some.inj hf
        obtain ⟨h1, hf⟩ := Prod.mk.inj hf
        obtain ⟨h2, h3⟩ := Prod.mk.inj hf
        subst h1
        subst h2
        subst h3
        exact retI C hH rfl dX5_lays_100
      have j_93 : ∀ (kk2 : Nat) (hkk2 : kk2 < 4) (y3 : Int32) (y4 : Int32) (R1 : M2) (F : M1) (H : Heap) (locs : List Loc) (ls : Array Slot), fX5_lays_c93 (fX5_lays_c36 n_36) kk2 y3 y4 R1 R2 R3 K T SN SZ F = some (r, R1', F') → Hp g A s H locs (wX g ad R1 R2 R3 K T SN SZ F) → lv_has ls 7 [(0, .ref (ad 0)), (2, .ref (ad (25 + 2 * kk2))), (3, .int y3), (4, .int y4)] → W p l e rmX5_lays s m args below meth c H locs 0 0 (QI g A below args s r (wX g ad R1' R2 R3 K T SN SZ F')) (F0 m 93 ls []) := by
        intro kk2 hkk2 y3 y4 R1 F H locs  ls hf hH hl
        rw [fX5_lays_c93] at hf
        obtain ⟨v_22, ev_22⟩ : ∃ z : Int32, z = y4 + (1 : Int32) := ⟨_, rfl⟩
        have hf := letb_at hf v_22 ev_22
        refine lv_iinc (v := v_22) (lv' := [(4, .int v_22), (0, .ref (ad 0)), (2, .ref (ad (25 + 2 * kk2))), (3, .int y3)]) hx hb dX5_lays_93 hl (k := 3) rfl (by rw [ev_22]; rfl) (by decide) rfl (fun ls hl => ?_)
        refine lv_goto (tgt := 36) hx hb dX5_lays_96 (by decide) ?_
        exact ih_36 kk2 hkk2 y3 v_22 R1 F _ _ ls hf hH (lv_sub hl [1, 2, 3, 0] rfl)
      refine lv_iload hx hb dX5_lays_36 (lv_at hl 3 rfl) ?_
      refine lv_aload_n hx hb dX5_lays_38 rfl (lv_at hl 1 rfl) ?_
      refine gf_RX5_228 C hE hH (25 + 2 * kk2) (wX_obj hkk2 g ad R1 R2 R3 K T SN SZ F) rfl dX5_lays_39 ?_
      refine lv_icmp_ge (tgt := 99) hx hb dX5_lays_42 (by decide) (fun c_23 => ?_) (fun c_23 => ?_)
      · have hf := if_p hf c_23
        exact j_99 y3 R1 F _ _ ls hf hH (lv_sub hl [2] rfl)
      · have hf := if_n hf c_23
        refine lv_iload hx hb dX5_lays_45 (lv_at hl 3 rfl) ?_
        refine lv_bipush (v := 28) hx hb dX5_lays_47 (by decide) ?_
        refine lv_icmp_ge (tgt := 99) hx hb dX5_lays_49 (by decide) (fun c_24 => ?_) (fun c_24 => ?_)
        · have hf := if_p hf c_24
          exact j_99 y3 R1 F _ _ ls hf hH (lv_sub hl [2] rfl)
        · have hf := if_n hf c_24
          refine lv_aload_n hx hb dX5_lays_52 rfl (lv_at hl 1 rfl) ?_
          refine gf_RX5_235 C hE hH (25 + 2 * kk2) (wX_obj hkk2 g ad R1 R2 R3 K T SN SZ F) rfl dX5_lays_53 ?_
          refine lv_iload hx hb dX5_lays_56 (lv_at hl 3 rfl) ?_
          obtain ⟨hi_25, hf⟩ := grd_inv hf
          refine xlald C hE hH (26 + 2 * kk2) (wX_arr hkk2 g ad R1 R2 R3 K T SN SZ F) hi_25 dX5_lays_58 ?_
          refine lv_topl (fun v_26 ev_26 => ?_)
          have hf := letb_at hf v_26 ev_26
          refine lv_lstore (lv' := [(5, .long v_26), (0, .ref (ad 0)), (2, .ref (ad (25 + 2 * kk2))), (3, .int y3), (4, .int y4)]) hx hb dX5_lays_59 hl (by decide) rfl (fun ls hl => ?_)
          refine lv_lload hx hb dX5_lays_61 (lv_at hl 0 rfl) ?_
          refine lv_lconst (v := 0) hx hb dX5_lays_63 (by decide) ?_
          refine W.lcmp hx hb dX5_lays_64 ?_
          refine lv_if_lt (tgt := 93) hx hb dX5_lays_65 (by decide) (fun c_27 => ?_) (fun c_27 => ?_)
          · have hf := if_p hf c_27
            exact j_93 kk2 hkk2 y3 y4 R1 F _ _ ls hf hH (lv_sub hl [1, 2, 3, 4] rfl)
          · have hf := if_n hf c_27
            refine lv_lload hx hb dX5_lays_68 (lv_at hl 0 rfl) ?_
            refine W.ldc2 hx hb hown (hT _ tw_37_1) rfl dX5_lays_70 ?_
            refine W.eq (g2 := F0 m 73 ls [.long (12 : Int64), .long v_26]) rfl ?_
            refine W.lcmp hx hb dX5_lays_73 ?_
            refine lv_if_gt (tgt := 93) hx hb dX5_lays_74 (by decide) (fun c_28 => ?_) (fun c_28 => ?_)
            · have hf := if_p hf c_28
              exact j_93 kk2 hkk2 y3 y4 R1 F _ _ ls hf hH (lv_sub hl [1, 2, 3, 4] rfl)
            · have hf := if_n hf c_28
              refine lv_aload_n hx hb dX5_lays_77 rfl (lv_at hl 1 rfl) ?_
              refine gf_RX5_10 C hE hH 0 rfl rfl dX5_lays_78 ?_
              refine gf_RX5_53 C hE hH 1 rfl rfl dX5_lays_81 ?_
              refine lv_iload hx hb dX5_lays_84 (lv_at hl 4 rfl) ?_
              refine lv_lload hx hb dX5_lays_86 (lv_at hl 0 rfl) ?_
              refine lv_l2i hx hb dX5_lays_88 rfl ?_
              obtain ⟨hi_29, hf⟩ := grd_inv hf
              refine xiast C hE hH 2 rfl hi_29 (fun q : M2 => wX g ad q R2 R3 K T SN SZ F) (st2 R1 1 (upd (R1 1) y4.toNatClampNeg (v_26.toInt32))) rfl dX5_lays_89 (fun R1_30 eR1_30 H locs hH => ?_)
              have hf := letb_at hf R1_30 eR1_30
              obtain ⟨v_31, ev_31⟩ : ∃ z : Int32, z = y3 + (1 : Int32) := ⟨_, rfl⟩
              have hf := letb_at hf v_31 ev_31
              refine lv_iinc (v := v_31) (lv' := [(3, .int v_31), (5, .long v_26), (0, .ref (ad 0)), (2, .ref (ad (25 + 2 * kk2))), (4, .int y4)]) hx hb dX5_lays_90 hl (k := 3) rfl (by rw [ev_31]; rfl) (by decide) rfl (fun ls hl => ?_)
              exact j_93 kk2 hkk2 v_31 y4 R1_30 F _ _ ls hf hH (lv_sub hl [2, 3, 0, 4] rfl)
  refine lv_aload_n hx hb dX5_lays_0 rfl (lv_at hl 0 rfl) ?_
  refine lv_iload_n hx hb dX5_lays_1 rfl (lv_at hl 1 rfl) ?_
  refine aftPA (runV C hE hA hH [0, 1, 2, 3, 4, 5, 6, 7, 8, 9, 10, 11, 12, 13, 14, 15, 16, 17, 18, 19, 20, 21, 22, 23, 24, 25, 26, 27, 28, 29, 30, 31, 32, 33] nC_X_X_0_33 (sC_X_X_0_33 g ad R1 R2 R3 K T SN SZ F) (kX5_sheetAt l g ad _ R1 R2 R3 K T SN SZ F x1) tw_34_6 tw_34_7 tw_34_8 tw_1_2 tw_34_9 hdX5_sheetAt 0 rfl rfl rfl rfl ⟨Nat.le_of_ble_eq_true rfl, Nat.le_of_ble_eq_true rfl⟩ rfl hl.1 (rest := []) rfl (Nat.le_of_ble_eq_true rfl) dX5_lays_2 ⟨Nat.zero_le _, Nat.zero_le _⟩) ?_
  by_cases c_32 : inb x1 4 = true
  · have hf := if_p hf c_32
    rw [shv, if_pos c_32]
    have hk_33 : x1.toNatClampNeg < 4 := Nat.not_le.mp fun q => inb_in c_32 (Or.inr q)
    generalize ek_33 : x1.toNatClampNeg = k_33 at hk_33 ⊢
    have hf := letb_at hf k_33 ek_33.symm
    refine lv_astore_n (lv' := [(2, .ref (ad (25 + 2 * k_33))), (0, .ref (ad 0)), (1, .int x1)]) hx hb dX5_lays_5 rfl hl (by decide) rfl (fun ls hl => ?_)
    refine lv_aload_n hx hb dX5_lays_6 rfl (lv_at hl 0 rfl) ?_
    refine lv_ifnonnull (tgt := 17) hx hb dX5_lays_7 (by decide) ?_
    refine lv_aload_n hx hb dX5_lays_17 rfl (lv_at hl 0 rfl) ?_
    obtain ⟨r_34, hc_35, hf⟩ := bind_inv hf
    refine aftPI (runV C hE hA hH [25 + 2 * k_33, 26 + 2 * k_33] (nK hk_33) (sK hk_33 g ad R1 R2 R3 K T SN SZ F) (kX2_isMissing l g (fun j => ad (25 + 2 * k_33 + j)) _ (SN k_33) (SZ k_33) r_34 hc_35) tw_35_11 tw_35_12 tw_35_13 tw_2_3 tw_35_14 hdX2_isMissing (25 + 2 * k_33) (wX_obj hk_33 g ad R1 R2 R3 K T SN SZ F) rfl rfl rfl ⟨Nat.le_of_ble_eq_true rfl, Nat.le_of_ble_eq_true rfl⟩ rfl hl.1 (rest := []) rfl (Nat.le_of_ble_eq_true rfl) dX5_lays_18 ⟨Nat.zero_le _, Nat.zero_le _⟩) ?_
    refine lv_if_eq (tgt := 31) hx hb dX5_lays_21 (by decide) (fun c_36 => ?_) (fun c_36 => ?_)
    · have hf := if_p hf c_36
      refine lv_iconst (v := 0) hx hb dX5_lays_31 (by decide) ?_
      refine lv_istore_n (lv' := [(3, .int (0 : Int32)), (2, .ref (ad (25 + 2 * k_33))), (0, .ref (ad 0)), (1, .int x1)]) hx hb dX5_lays_32 rfl hl (by decide) rfl (fun ls hl => ?_)
      refine lv_iconst (v := 0) hx hb dX5_lays_33 (by decide) ?_
      refine lv_istore (lv' := [(4, .int (0 : Int32)), (3, .int (0 : Int32)), (2, .ref (ad (25 + 2 * k_33))), (0, .ref (ad 0)), (1, .int x1)]) hx hb dX5_lays_34 hl (by decide) rfl (fun ls hl => ?_)
      exact lp_36 _ k_33 hk_33 (0 : Int32) (0 : Int32) R1 F _ _ ls hf hH (lv_sub hl [3, 2, 1, 0] rfl)
    · have hf := if_n hf c_36
      refine lv_aload_n hx hb dX5_lays_24 rfl (lv_at hl 1 rfl) ?_
      refine lv_ldc hx hb hown (hT _ tw_35_9) dX5_lays_25 ?_
      obtain ⟨r_37, F_38, hc_39, hf⟩ := bind2_inv hf
      refine aftI (runV C hE hA hH [0, 1, 2, 3, 4, 5, 6, 7, 8, 9, 10, 11, 12, 13, 14, 15, 16, 17, 18, 19, 20, 21, 22, 23, 24, 25, 26, 27, 28, 29, 30, 31, 32, 33] nC_X_X_0_33 (sC_X_X_0_33 g ad R1 R2 R3 K T SN SZ F) (kX5_tell l g ad _ R1 R2 R3 K T SN SZ F (-1000000006 : Int32) r_37 F_38  hc_39) tw_4_17 tw_4_18 tw_4_19 tw_1_2 tw_4_20 hdX5_tell 0 rfl rfl rfl rfl ⟨Nat.le_of_ble_eq_true rfl, Nat.le_of_ble_eq_true rfl⟩ rfl hl.1 (rest := []) rfl (Nat.le_of_ble_eq_true rfl) dX5_lays_27 ⟨Nat.zero_le _, Nat.zero_le _⟩) hA hH [0, 1, 2, 3, 4, 5, 6, 7, 8, 9, 10, 11, 12, 13, 14, 15, 16, 17, 18, 19, 20, 21, 22, 23, 24, 25, 26, 27, 28, 29, 30, 31, 32, 33] [] (sC_X_X_0_33 g ad R1 R2 R3 K T SN SZ F) (sR_X_X_0_33 g ad R1 R2 R3 K T SN SZ F) nR_X_X_0_33 dj_X_X_0_33 [0, 1, 2, 3, 4, 5, 6, 7, 8, 9, 10, 11, 12, 13, 14, 15, 16, 17, 18, 19, 20, 21, 22, 23, 24, 25, 26, 27, 28, 29, 30, 31, 32, 33] nP_X_X_0_33 (sP_X_X_0_33 g ad R1 R2 R3 K T SN SZ F R1 R2 R3 K T SN SZ F_38) (fun H locs hH => ?_)
      have hf := Option.some.inj hf
      obtain ⟨h1, hf⟩ := Prod.mk.inj hf
      obtain ⟨h2, h3⟩ := Prod.mk.inj hf
      subst h1
      subst h2
      subst h3
      exact retI C hH rfl dX5_lays_30
  · have hf := if_n hf c_32
    rw [shv, if_neg c_32]
    refine lv_astore_nN (lv' := [(2, .null), (0, .ref (ad 0)), (1, .int x1)]) hx hb dX5_lays_5 rfl hl (by decide) rfl (fun ls hl => ?_)
    refine lv_aload_nN hx hb dX5_lays_6 rfl (lv_at hl 0 rfl) ?_
    refine lv_ifnonnullN hx hb dX5_lays_7 ?_
    refine lv_aload_n hx hb dX5_lays_10 rfl (lv_at hl 1 rfl) ?_
    refine lv_ldc hx hb hown (hT _ tw_4_12) dX5_lays_11 ?_
    obtain ⟨r_40, F_41, hc_42, hf⟩ := bind2_inv hf
    refine aftI (runV C hE hA hH [0, 1, 2, 3, 4, 5, 6, 7, 8, 9, 10, 11, 12, 13, 14, 15, 16, 17, 18, 19, 20, 21, 22, 23, 24, 25, 26, 27, 28, 29, 30, 31, 32, 33] nC_X_X_0_33 (sC_X_X_0_33 g ad R1 R2 R3 K T SN SZ F) (kX5_tell l g ad _ R1 R2 R3 K T SN SZ F (-1000000001 : Int32) r_40 F_41  hc_42) tw_4_17 tw_4_18 tw_4_19 tw_1_2 tw_4_20 hdX5_tell 0 rfl rfl rfl rfl ⟨Nat.le_of_ble_eq_true rfl, Nat.le_of_ble_eq_true rfl⟩ rfl hl.1 (rest := []) rfl (Nat.le_of_ble_eq_true rfl) dX5_lays_13 ⟨Nat.zero_le _, Nat.zero_le _⟩) hA hH [0, 1, 2, 3, 4, 5, 6, 7, 8, 9, 10, 11, 12, 13, 14, 15, 16, 17, 18, 19, 20, 21, 22, 23, 24, 25, 26, 27, 28, 29, 30, 31, 32, 33] [] (sC_X_X_0_33 g ad R1 R2 R3 K T SN SZ F) (sR_X_X_0_33 g ad R1 R2 R3 K T SN SZ F) nR_X_X_0_33 dj_X_X_0_33 [0, 1, 2, 3, 4, 5, 6, 7, 8, 9, 10, 11, 12, 13, 14, 15, 16, 17, 18, 19, 20, 21, 22, 23, 24, 25, 26, 27, 28, 29, 30, 31, 32, 33] nP_X_X_0_33 (sP_X_X_0_33 g ad R1 R2 R3 K T SN SZ F R1 R2 R3 K T SN SZ F_41) (fun H locs hH => ?_)
    have hf := Option.some.inj hf
    obtain ⟨h1, hf⟩ := Prod.mk.inj hf
    obtain ⟨h2, h3⟩ := Prod.mk.inj hf
    subst h1
    subst h2
    subst h3
    exact retI C hH rfl dX5_lays_16
def fX5_book_c71  (kk2 : Nat) (R1 : M2) (R2 : M2) (R3 : M2) (K : Int32) (T : M2) (SN : J2) (SZ : M2) (F : M1) : Option (Int32 × M2 × J2 × M1) := some (SZ kk2 1, R2, SN, F)
def fX5_book_c37  : Nat → Nat → Int32 → M2 → M2 → M2 → Int32 → M2 → J2 → M2 → M1 → Option (Int32 × M2 × J2 × M1)
  | 0, _, _, _, _, _, _, _, _, _, _ => none
  | n + 1, kk2, y3, R1, R2, R3, K, T, SN, SZ, F => (if (SZ kk2 1) ≤ y3 then fX5_book_c71  kk2 R1 R2 R3 K T SN SZ F else (fX2_put y3 ((R2 0 2).toInt64) (SN kk2) (SZ kk2)).bind (fun (B_23 : J1) => letb (st2 SN kk2 B_23) (fun SN_25 : J2 => (fX1_passDay R2).bind (fun (R2_27 : M2) => letb (y3 + (1 : Int32)) (fun v_29 : Int32 => fX5_book_c37 n kk2 v_29 R1 R2_27 R3 K T SN_25 SZ F)))))
def fX5_book (x1 : Int32) (R1 : M2) (R2 : M2) (R3 : M2) (K : Int32) (T : M2) (SN : J2) (SZ : M2) (F : M1) : Option (Int32 × M2 × J2 × M1) := (if inb x1 4 = true then letb x1.toNatClampNeg (fun k_31 : Nat => (fX2_isMissing (SN k_31) (SZ k_31)).bind (fun (r_32 : Int32) => (if r_32 = 0 then (fX5_startTrial R1 R2 R3 K T SN SZ F).bind (fun (R2_35 : M2) => fX5_book_c37  FU k_31 (0 : Int32) R1 R2_35 R3 K T SN SZ F) else bind2 (fX5_tell (-1000000006 : Int32) R1 R2 R3 K T SN SZ F) (fun (r_37 : Int32) (F_38 : M1) => some (r_37, R2, SN, F_38))))) else bind2 (fX5_tell (-1000000001 : Int32) R1 R2 R3 K T SN SZ F) (fun (r_40 : Int32) (F_41 : M1) => some (r_40, R2, SN, F_41)))
def rmX5_book : Room := { frames := 5, cells := 0, slots := 0, locals := 115 }
theorem hdX5_book : yX5_book.cls = yX5_book.cls ∧ yX5_book.cls ≠ "java/lang/invoke/MethodHandle" ∧ yX5_book.cls ≠ "java/lang/invoke/VarHandle" ∧ (parseMethodDescriptor yX5_book.desc).map (fun d => d.parameters.length) = some 1 := by decide +kernel
set_option maxHeartbeats 4000000 in
set_option maxRecDepth 100000 in
theorem kX5_book (l : Launch) (g : Gl) (ad : Nat → Nat) (sz : Nat) (R1 : M2) (R2 : M2) (R3 : M2) (K : Int32) (T : M2) (SN : J2) (SZ : M2) (F : M1) (x1 : Int32) (r : Int32) (R2' : M2) (SN' : J2) (F' : M1)  (hf : fX5_book x1 R1 R2 R3 K T SN SZ F = some (r, R2', SN', F')) : MetI l yX5_book (Cond.code yX5_book cX5_book 4 (some .int) :: wsL_law) rmX5_book [.ref (ad 0), .int x1] g (wX g ad R1 R2 R3 K T SN SZ F) sz r (wX g ad R1 R2' R3 K T SN' SZ F') := by
  refine openI (by decide +kernel) (Nat.le_of_ble_eq_true rfl) ?_
  intro p e s m args below meth c A C hE hA hH ls hl
  have hl : lv_has ls 4 [(0, .ref (ad 0)), (1, .int x1)] := hl
  have C : Cx p s m args meth c cX5_book 4 (some .int) RX5 := C
  obtain ⟨hx, hb, hml, hown, hT, hr, hlk⟩ := id C
  rw [fX5_book] at hf
  have lp_37 : ∀ (n_37 : Nat) (kk2 : Nat) (hkk2 : kk2 < 4) (y3 : Int32) (R2 : M2) (SN : J2) (F : M1) (H : Heap) (locs : List Loc) (ls : Array Slot), fX5_book_c37  n_37 kk2 y3 R1 R2 R3 K T SN SZ F = some (r, R2', SN', F') → Hp g A s H locs (wX g ad R1 R2 R3 K T SN SZ F) → lv_has ls 4 [(0, .ref (ad 0)), (2, .ref (ad (25 + 2 * kk2))), (3, .int y3)] → W p l e rmX5_book s m args below meth c H locs 0 0 (QI g A below args s r (wX g ad R1 R2' R3 K T SN' SZ F')) (F0 m 37 ls []) := by
    intro n_37
    induction n_37 with
    | zero =>
      intro kk2 hkk2 y3 R2 SN F H locs  ls hf hH hl
      rw [fX5_book_c37] at hf
      cases hf
    | succ n_37 ih_37 =>
      intro kk2 hkk2 y3 R2 SN F H locs  ls hf hH hl
      rw [fX5_book_c37] at hf
      have j_71 : ∀ (kk2 : Nat) (hkk2 : kk2 < 4) (R2 : M2) (SN : J2) (F : M1) (H : Heap) (locs : List Loc) (ls : Array Slot), fX5_book_c71  kk2 R1 R2 R3 K T SN SZ F = some (r, R2', SN', F') → Hp g A s H locs (wX g ad R1 R2 R3 K T SN SZ F) → lv_has ls 4 [(2, .ref (ad (25 + 2 * kk2)))] → W p l e rmX5_book s m args below meth c H locs 0 0 (QI g A below args s r (wX g ad R1 R2' R3 K T SN' SZ F')) (F0 m 71 ls []) := by
        intro kk2 hkk2 R2 SN F H locs  ls hf hH hl
        rw [fX5_book_c71] at hf
        refine lv_aload_n hx hb dX5_book_71 rfl (lv_at hl 0 rfl) ?_
        refine gf_RX5_228 C hE hH (25 + 2 * kk2) (wX_obj hkk2 g ad R1 R2 R3 K T SN SZ F) rfl dX5_book_72 ?_
        have hf := Option.some.inj hf
        obtain ⟨h1, hf⟩ := Prod.mk.inj hf
        obtain ⟨h2, hf⟩ := Prod.mk.inj hf
        obtain ⟨h3, h4⟩ := Prod.mk.inj hf
        subst h1
        subst h2
        subst h3
        subst h4
        exact retI C hH rfl dX5_book_75
      refine lv_iload_n hx hb dX5_book_37 rfl (lv_at hl 2 rfl) ?_
      refine lv_aload_n hx hb dX5_book_38 rfl (lv_at hl 1 rfl) ?_
      refine gf_RX5_228 C hE hH (25 + 2 * kk2) (wX_obj hkk2 g ad R1 R2 R3 K T SN SZ F) rfl dX5_book_39 ?_
      refine lv_icmp_ge (tgt := 71) hx hb dX5_book_42 (by decide) (fun c_22 => ?_) (fun c_22 => ?_)
      · have hf := if_p hf c_22
        exact j_71 kk2 hkk2 R2 SN F _ _ ls hf hH (lv_sub hl [1] rfl)
      · have hf := if_n hf c_22
        refine lv_aload_n hx hb dX5_book_45 rfl (lv_at hl 1 rfl) ?_
        refine lv_iload_n hx hb dX5_book_46 rfl (lv_at hl 2 rfl) ?_
        refine lv_aload_n hx hb dX5_book_47 rfl (lv_at hl 0 rfl) ?_
        refine gf_RX5_16 C hE hH 0 rfl rfl dX5_book_48 ?_
        refine gf_RX5_150 C hE hH 8 rfl rfl dX5_book_51 ?_
        refine lv_i2l hx hb dX5_book_54 rfl ?_
        obtain ⟨B_23, hc_24, hf⟩ := bind_inv hf
        obtain ⟨isR, perm, wr, q1, q2, q3, q4, q5⟩ := sKsplit hkk2 g ad R1 R2 R3 K T SN SZ F
        refine aftV (runV C hE hA hH [25 + 2 * kk2, 26 + 2 * kk2] (nK hkk2) (sK hkk2 g ad R1 R2 R3 K T SN SZ F) (kX2_put l g (fun j => ad (25 + 2 * kk2 + j)) _ (SN kk2) (SZ kk2) y3 ((R2 0 2).toInt64) B_23 hc_24) tw_35_15 tw_35_16 tw_35_17 tw_2_3 tw_35_18 hdX2_put (25 + 2 * kk2) (wX_obj hkk2 g ad R1 R2 R3 K T SN SZ F) rfl rfl rfl ⟨Nat.le_of_ble_eq_true rfl, Nat.le_of_ble_eq_true rfl⟩ rfl hl.1 (rest := []) rfl (Nat.le_of_ble_eq_true rfl) dX5_book_55 ⟨Nat.zero_le _, Nat.zero_le _⟩) hA hH [25 + 2 * kk2, 26 + 2 * kk2] isR (sK hkk2 g ad R1 R2 R3 K T SN SZ F) q1 q2 q3 perm q4 (q5 B_23 (SZ kk2)) (fun H locs hH => ?_)
        obtain ⟨SN_25, eSN_25⟩ : ∃ z : J2, z = st2 SN kk2 B_23 := ⟨_, rfl⟩
        rw [← eSN_25] at hH
        have hf := letb_at hf SN_25 eSN_25
        rw [st2_same] at hH
        refine lv_aload_n hx hb dX5_book_58 rfl (lv_at hl 0 rfl) ?_
        refine gf_RX5_16 C hE hH 0 rfl rfl dX5_book_59 ?_
        obtain ⟨R2_27, hc_28, hf⟩ := bind_inv hf
        refine aftV (runV C hE hA hH [8, 9, 10, 11, 12, 13, 14] nC_X_L_8_14 (sC_X_L_8_14 g ad R1 R2 R3 K T SN_25 SZ F) (kX1_passDay l g (fun k => ad (8 + k)) _ R2 R2_27  hc_28) tw_20_17 tw_14_6 tw_14_7 tw_1_15 tw_14_8 hdX1_passDay 8 rfl rfl rfl rfl ⟨Nat.le_of_ble_eq_true rfl, Nat.le_of_ble_eq_true rfl⟩ rfl hl.1 (rest := []) rfl (Nat.le_of_ble_eq_true rfl) dX5_book_62 ⟨Nat.zero_le _, Nat.zero_le _⟩) hA hH [8, 9, 10, 11, 12, 13, 14] [0, 1, 2, 3, 4, 5, 6, 7, 15, 16, 17, 18, 19, 20, 21, 22, 23, 24, 25, 26, 27, 28, 29, 30, 31, 32, 33] (sC_X_L_8_14 g ad R1 R2 R3 K T SN_25 SZ F) (sR_X_L_8_14 g ad R1 R2 R3 K T SN_25 SZ F) nR_X_L_8_14 dj_X_L_8_14 [0, 1, 2, 3, 4, 5, 6, 7, 27, 28, 29, 30, 31, 32, 33, 8, 9, 10, 11, 12, 13, 14, 15, 16, 17, 18, 19, 20, 21, 22, 23, 24, 25, 26] nP_X_L_8_14 (sP_X_L_8_14 g ad R1 R2 R3 K T SN_25 SZ F R2_27) (fun H locs hH => ?_)
        obtain ⟨v_29, ev_29⟩ : ∃ z : Int32, z = y3 + (1 : Int32) := ⟨_, rfl⟩
        have hf := letb_at hf v_29 ev_29
        refine lv_iinc (v := v_29) (lv' := [(3, .int v_29), (0, .ref (ad 0)), (2, .ref (ad (25 + 2 * kk2)))]) hx hb dX5_book_65 hl (k := 2) rfl (by rw [ev_29]; rfl) (by decide) rfl (fun ls hl => ?_)
        refine lv_goto (tgt := 37) hx hb dX5_book_68 (by decide) ?_
        exact ih_37 kk2 hkk2 v_29 R2_27 SN_25 F _ _ ls hf hH (lv_sub hl [1, 2, 0] rfl)
  refine lv_aload_n hx hb dX5_book_0 rfl (lv_at hl 0 rfl) ?_
  refine lv_iload_n hx hb dX5_book_1 rfl (lv_at hl 1 rfl) ?_
  refine aftPA (runV C hE hA hH [0, 1, 2, 3, 4, 5, 6, 7, 8, 9, 10, 11, 12, 13, 14, 15, 16, 17, 18, 19, 20, 21, 22, 23, 24, 25, 26, 27, 28, 29, 30, 31, 32, 33] nC_X_X_0_33 (sC_X_X_0_33 g ad R1 R2 R3 K T SN SZ F) (kX5_sheetAt l g ad _ R1 R2 R3 K T SN SZ F x1) tw_34_6 tw_34_7 tw_34_8 tw_1_2 tw_34_9 hdX5_sheetAt 0 rfl rfl rfl rfl ⟨Nat.le_of_ble_eq_true rfl, Nat.le_of_ble_eq_true rfl⟩ rfl hl.1 (rest := []) rfl (Nat.le_of_ble_eq_true rfl) dX5_book_2 ⟨Nat.zero_le _, Nat.zero_le _⟩) ?_
  by_cases c_30 : inb x1 4 = true
  · have hf := if_p hf c_30
    rw [shv, if_pos c_30]
    have hk_31 : x1.toNatClampNeg < 4 := Nat.not_le.mp fun q => inb_in c_30 (Or.inr q)
    generalize ek_31 : x1.toNatClampNeg = k_31 at hk_31 ⊢
    have hf := letb_at hf k_31 ek_31.symm
    refine lv_astore_n (lv' := [(2, .ref (ad (25 + 2 * k_31))), (0, .ref (ad 0)), (1, .int x1)]) hx hb dX5_book_5 rfl hl (by decide) rfl (fun ls hl => ?_)
    refine lv_aload_n hx hb dX5_book_6 rfl (lv_at hl 0 rfl) ?_
    refine lv_ifnonnull (tgt := 17) hx hb dX5_book_7 (by decide) ?_
    refine lv_aload_n hx hb dX5_book_17 rfl (lv_at hl 0 rfl) ?_
    obtain ⟨r_32, hc_33, hf⟩ := bind_inv hf
    refine aftPI (runV C hE hA hH [25 + 2 * k_31, 26 + 2 * k_31] (nK hk_31) (sK hk_31 g ad R1 R2 R3 K T SN SZ F) (kX2_isMissing l g (fun j => ad (25 + 2 * k_31 + j)) _ (SN k_31) (SZ k_31) r_32 hc_33) tw_35_11 tw_35_12 tw_35_13 tw_2_3 tw_35_14 hdX2_isMissing (25 + 2 * k_31) (wX_obj hk_31 g ad R1 R2 R3 K T SN SZ F) rfl rfl rfl ⟨Nat.le_of_ble_eq_true rfl, Nat.le_of_ble_eq_true rfl⟩ rfl hl.1 (rest := []) rfl (Nat.le_of_ble_eq_true rfl) dX5_book_18 ⟨Nat.zero_le _, Nat.zero_le _⟩) ?_
    refine lv_if_eq (tgt := 31) hx hb dX5_book_21 (by decide) (fun c_34 => ?_) (fun c_34 => ?_)
    · have hf := if_p hf c_34
      refine lv_aload_n hx hb dX5_book_31 rfl (lv_at hl 1 rfl) ?_
      obtain ⟨R2_35, hc_36, hf⟩ := bind_inv hf
      refine aftV (runV C hE hA hH [0, 1, 2, 3, 4, 5, 6, 7, 8, 9, 10, 11, 12, 13, 14, 15, 16, 17, 18, 19, 20, 21, 22, 23, 24, 25, 26, 27, 28, 29, 30, 31, 32, 33] nC_X_X_0_33 (sC_X_X_0_33 g ad R1 R2 R3 K T SN SZ F) (kX5_startTrial l g ad _ R1 R2 R3 K T SN SZ F R2_35  hc_36) tw_18_14 tw_18_15 tw_18_16 tw_1_2 tw_18_17 hdX5_startTrial 0 rfl rfl rfl rfl ⟨Nat.le_of_ble_eq_true rfl, Nat.le_of_ble_eq_true rfl⟩ rfl hl.1 (rest := []) rfl (Nat.le_of_ble_eq_true rfl) dX5_book_32 ⟨Nat.zero_le _, Nat.zero_le _⟩) hA hH [0, 1, 2, 3, 4, 5, 6, 7, 8, 9, 10, 11, 12, 13, 14, 15, 16, 17, 18, 19, 20, 21, 22, 23, 24, 25, 26, 27, 28, 29, 30, 31, 32, 33] [] (sC_X_X_0_33 g ad R1 R2 R3 K T SN SZ F) (sR_X_X_0_33 g ad R1 R2 R3 K T SN SZ F) nR_X_X_0_33 dj_X_X_0_33 [0, 1, 2, 3, 4, 5, 6, 7, 8, 9, 10, 11, 12, 13, 14, 15, 16, 17, 18, 19, 20, 21, 22, 23, 24, 25, 26, 27, 28, 29, 30, 31, 32, 33] nP_X_X_0_33 (sP_X_X_0_33 g ad R1 R2 R3 K T SN SZ F R1 R2_35 R3 K T SN SZ F) (fun H locs hH => ?_)
      refine lv_iconst (v := 0) hx hb dX5_book_35 (by decide) ?_
      refine lv_istore_n (lv' := [(3, .int (0 : Int32)), (2, .ref (ad (25 + 2 * k_31))), (0, .ref (ad 0)), (1, .int x1)]) hx hb dX5_book_36 rfl hl (by decide) rfl (fun ls hl => ?_)
      exact lp_37 _ k_31 hk_31 (0 : Int32) R2_35 SN F _ _ ls hf hH (lv_sub hl [2, 1, 0] rfl)
    · have hf := if_n hf c_34
      refine lv_aload_n hx hb dX5_book_24 rfl (lv_at hl 1 rfl) ?_
      refine lv_ldc hx hb hown (hT _ tw_35_9) dX5_book_25 ?_
      obtain ⟨r_37, F_38, hc_39, hf⟩ := bind2_inv hf
      refine aftI (runV C hE hA hH [0, 1, 2, 3, 4, 5, 6, 7, 8, 9, 10, 11, 12, 13, 14, 15, 16, 17, 18, 19, 20, 21, 22, 23, 24, 25, 26, 27, 28, 29, 30, 31, 32, 33] nC_X_X_0_33 (sC_X_X_0_33 g ad R1 R2 R3 K T SN SZ F) (kX5_tell l g ad _ R1 R2 R3 K T SN SZ F (-1000000006 : Int32) r_37 F_38  hc_39) tw_4_17 tw_4_18 tw_4_19 tw_1_2 tw_4_20 hdX5_tell 0 rfl rfl rfl rfl ⟨Nat.le_of_ble_eq_true rfl, Nat.le_of_ble_eq_true rfl⟩ rfl hl.1 (rest := []) rfl (Nat.le_of_ble_eq_true rfl) dX5_book_27 ⟨Nat.zero_le _, Nat.zero_le _⟩) hA hH [0, 1, 2, 3, 4, 5, 6, 7, 8, 9, 10, 11, 12, 13, 14, 15, 16, 17, 18, 19, 20, 21, 22, 23, 24, 25, 26, 27, 28, 29, 30, 31, 32, 33] [] (sC_X_X_0_33 g ad R1 R2 R3 K T SN SZ F) (sR_X_X_0_33 g ad R1 R2 R3 K T SN SZ F) nR_X_X_0_33 dj_X_X_0_33 [0, 1, 2, 3, 4, 5, 6, 7, 8, 9, 10, 11, 12, 13, 14, 15, 16, 17, 18, 19, 20, 21, 22, 23, 24, 25, 26, 27, 28, 29, 30, 31, 32, 33] nP_X_X_0_33 (sP_X_X_0_33 g ad R1 R2 R3 K T SN SZ F R1 R2 R3 K T SN SZ F_38) (fun H locs hH => ?_)
      have hf := Option.some.inj hf
      obtain ⟨h1, hf⟩ := Prod.mk.inj hf
      obtain ⟨h2, hf⟩ := Prod.mk.inj hf
      obtain ⟨h3, h4⟩ := Prod.mk.inj hf
      subst h1
      subst h2
      subst h3
      subst h4
      exact retI C hH rfl dX5_book_30
  · have hf := if_n hf c_30
    rw [shv, if_neg c_30]
    refine lv_astore_nN (lv' := [(2, .null), (0, .ref (ad 0)), (1, .int x1)]) hx hb dX5_book_5 rfl hl (by decide) rfl (fun ls hl => ?_)
    refine lv_aload_nN hx hb dX5_book_6 rfl (lv_at hl 0 rfl) ?_
    refine lv_ifnonnullN hx hb dX5_book_7 ?_
    refine lv_aload_n hx hb dX5_book_10 rfl (lv_at hl 1 rfl) ?_
    refine lv_ldc hx hb hown (hT _ tw_4_12) dX5_book_11 ?_
    obtain ⟨r_40, F_41, hc_42, hf⟩ := bind2_inv hf
    refine aftI (runV C hE hA hH [0, 1, 2, 3, 4, 5, 6, 7, 8, 9, 10, 11, 12, 13, 14, 15, 16, 17, 18, 19, 20, 21, 22, 23, 24, 25, 26, 27, 28, 29, 30, 31, 32, 33] nC_X_X_0_33 (sC_X_X_0_33 g ad R1 R2 R3 K T SN SZ F) (kX5_tell l g ad _ R1 R2 R3 K T SN SZ F (-1000000001 : Int32) r_40 F_41  hc_42) tw_4_17 tw_4_18 tw_4_19 tw_1_2 tw_4_20 hdX5_tell 0 rfl rfl rfl rfl ⟨Nat.le_of_ble_eq_true rfl, Nat.le_of_ble_eq_true rfl⟩ rfl hl.1 (rest := []) rfl (Nat.le_of_ble_eq_true rfl) dX5_book_13 ⟨Nat.zero_le _, Nat.zero_le _⟩) hA hH [0, 1, 2, 3, 4, 5, 6, 7, 8, 9, 10, 11, 12, 13, 14, 15, 16, 17, 18, 19, 20, 21, 22, 23, 24, 25, 26, 27, 28, 29, 30, 31, 32, 33] [] (sC_X_X_0_33 g ad R1 R2 R3 K T SN SZ F) (sR_X_X_0_33 g ad R1 R2 R3 K T SN SZ F) nR_X_X_0_33 dj_X_X_0_33 [0, 1, 2, 3, 4, 5, 6, 7, 8, 9, 10, 11, 12, 13, 14, 15, 16, 17, 18, 19, 20, 21, 22, 23, 24, 25, 26, 27, 28, 29, 30, 31, 32, 33] nP_X_X_0_33 (sP_X_X_0_33 g ad R1 R2 R3 K T SN SZ F R1 R2 R3 K T SN SZ F_41) (fun H locs hH => ?_)
    have hf := Option.some.inj hf
    obtain ⟨h1, hf⟩ := Prod.mk.inj hf
    obtain ⟨h2, hf⟩ := Prod.mk.inj hf
    obtain ⟨h3, h4⟩ := Prod.mk.inj hf
    subst h1
    subst h2
    subst h3
    subst h4
    exact retI C hH rfl dX5_book_16
def fX5_trialReads_c45  (R1 : M2) (R2 : M2) (R3 : M2) (K : Int32) (T : M2) (SN : J2) (SZ : M2) (F : M1) : Option (Int32 × M2) := some ((1 : Int32), R2)
def fX5_trialReads_c30  (R1 : M2) (R2 : M2) (R3 : M2) (K : Int32) (T : M2) (SN : J2) (SZ : M2) (F : M1) : Option (Int32 × M2) := some ((0 : Int32), R2)
def fX5_trialReads_c2  : Nat → Nat → Int32 → Int32 → M2 → M2 → M2 → Int32 → M2 → J2 → M2 → M1 → Option (Int32 × M2)
  | 0, _, _, _, _, _, _, _, _, _, _, _ => none
  | n + 1, kk1, y2, y3, R1, R2, R3, K, T, SN, SZ, F => (if (SZ kk1 1) ≤ y3 then fX5_trialReads_c45  R1 R2 R3 K T SN SZ F else grd (inb y2 8) (grd (inb y3 40) ((if (lg_cmp ((R2 5 y2.toNatClampNeg).toInt64) (SN kk1 y3.toNatClampNeg)) = 0 then (fX1_passDay R2).bind (fun (R2_12 : M2) => letb (y3 + (1 : Int32)) (fun v_14 : Int32 => fX5_trialReads_c2 n kk1 y2 v_14 R1 R2_12 R3 K T SN SZ F)) else fX5_trialReads_c30  R1 R2 R3 K T SN SZ F))))
def fX5_trialReads (kk1 : Nat) (x2 : Int32) (R1 : M2) (R2 : M2) (R3 : M2) (K : Int32) (T : M2) (SN : J2) (SZ : M2) (F : M1) : Option (Int32 × M2) := fX5_trialReads_c2  FU kk1 x2 (0 : Int32) R1 R2 R3 K T SN SZ F
def rmX5_trialReads : Room := { frames := 5, cells := 0, slots := 0, locals := 115 }
theorem hdX5_trialReads : yX5_trialReads.cls = yX5_trialReads.cls ∧ yX5_trialReads.cls ≠ "java/lang/invoke/MethodHandle" ∧ yX5_trialReads.cls ≠ "java/lang/invoke/VarHandle" ∧ (parseMethodDescriptor yX5_trialReads.desc).map (fun d => d.parameters.length) = some 2 := by decide +kernel
set_option maxHeartbeats 4000000 in
set_option maxRecDepth 100000 in
theorem kX5_trialReads (l : Launch) (g : Gl) (ad : Nat → Nat) (sz : Nat) (R1 : M2) (R2 : M2) (R3 : M2) (K : Int32) (T : M2) (SN : J2) (SZ : M2) (F : M1) (kk1 : Nat) (x2 : Int32) (r : Int32) (R2' : M2) (hkk1 : kk1 < 4) (hf : fX5_trialReads kk1 x2 R1 R2 R3 K T SN SZ F = some (r, R2')) : MetI l yX5_trialReads (Cond.code yX5_trialReads cX5_trialReads 4 (some .boolean) :: wsL_law) rmX5_trialReads [.ref (ad 0), .ref (ad (25 + 2 * kk1)), .int x2] g (wX g ad R1 R2 R3 K T SN SZ F) sz r (wX g ad R1 R2' R3 K T SN SZ F) := by
  refine openI (by decide +kernel) (Nat.le_of_ble_eq_true rfl) ?_
  intro p e s m args below meth c A C hE hA hH ls hl
  have hl : lv_has ls 4 [(0, .ref (ad 0)), (1, .ref (ad (25 + 2 * kk1))), (2, .int x2)] := hl
  have C : Cx p s m args meth c cX5_trialReads 4 (some .boolean) RX5 := C
  obtain ⟨hx, hb, hml, hown, hT, hr, hlk⟩ := id C
  rw [fX5_trialReads] at hf
  have lp_2 : ∀ (n_2 : Nat) (kk1 : Nat) (hkk1 : kk1 < 4) (y2 : Int32) (y3 : Int32) (R2 : M2) (H : Heap) (locs : List Loc) (ls : Array Slot), fX5_trialReads_c2  n_2 kk1 y2 y3 R1 R2 R3 K T SN SZ F = some (r, R2') → Hp g A s H locs (wX g ad R1 R2 R3 K T SN SZ F) → lv_has ls 4 [(0, .ref (ad 0)), (1, .ref (ad (25 + 2 * kk1))), (2, .int y2), (3, .int y3)] → W p l e rmX5_trialReads s m args below meth c H locs 0 0 (QI g A below args s r (wX g ad R1 R2' R3 K T SN SZ F)) (F0 m 2 ls []) := by
    intro n_2
    induction n_2 with
    | zero =>
      intro kk1 hkk1 y2 y3 R2 H locs  ls hf hH hl
      rw [fX5_trialReads_c2] at hf
      cases hf
    | succ n_2 ih_2 =>
      intro kk1 hkk1 y2 y3 R2 H locs  ls hf hH hl
      rw [fX5_trialReads_c2] at hf
      have j_45 : ∀ (R2 : M2) (H : Heap) (locs : List Loc) (ls : Array Slot), fX5_trialReads_c45  R1 R2 R3 K T SN SZ F = some (r, R2') → Hp g A s H locs (wX g ad R1 R2 R3 K T SN SZ F) → lv_has ls 4 [] → W p l e rmX5_trialReads s m args below meth c H locs 0 0 (QI g A below args s r (wX g ad R1 R2' R3 K T SN SZ F)) (F0 m 45 ls []) := by
        intro R2 H locs  ls hf hH hl
        rw [fX5_trialReads_c45] at hf
        refine lv_iconst (v := 1) hx hb dX5_trialReads_45 (by decide) ?_
        have hf := Option.some.inj hf
        obtain ⟨h1, h2⟩ := Prod.mk.inj hf
        subst h1
        subst h2
        exact retI C hH (by decide) dX5_trialReads_46
      have j_30 : ∀ (R2 : M2) (H : Heap) (locs : List Loc) (ls : Array Slot), fX5_trialReads_c30  R1 R2 R3 K T SN SZ F = some (r, R2') → Hp g A s H locs (wX g ad R1 R2 R3 K T SN SZ F) → lv_has ls 4 [] → W p l e rmX5_trialReads s m args below meth c H locs 0 0 (QI g A below args s r (wX g ad R1 R2' R3 K T SN SZ F)) (F0 m 30 ls []) := by
        intro R2 H locs  ls hf hH hl
        rw [fX5_trialReads_c30] at hf
        refine lv_iconst (v := 0) hx hb dX5_trialReads_30 (by decide) ?_
        have hf := Option.some.inj hf
        obtain ⟨h1, h2⟩ := Prod.mk.inj hf
        subst h1
        subst h2
        exact retI C hH (by decide) dX5_trialReads_31
      refine lv_iload_n hx hb dX5_trialReads_2 rfl (lv_at hl 3 rfl) ?_
      refine lv_aload_n hx hb dX5_trialReads_3 rfl (lv_at hl 1 rfl) ?_
      refine gf_RX5_228 C hE hH (25 + 2 * kk1) (wX_obj hkk1 g ad R1 R2 R3 K T SN SZ F) rfl dX5_trialReads_4 ?_
      refine lv_icmp_ge (tgt := 45) hx hb dX5_trialReads_7 (by decide) (fun c_8 => ?_) (fun c_8 => ?_)
      · have hf := if_p hf c_8
        exact j_45 R2 _ _ ls hf hH (lv_sub hl [] rfl)
      · have hf := if_n hf c_8
        refine lv_aload_n hx hb dX5_trialReads_10 rfl (lv_at hl 0 rfl) ?_
        refine gf_RX5_16 C hE hH 0 rfl rfl dX5_trialReads_11 ?_
        refine gf_RX5_102 C hE hH 8 rfl rfl dX5_trialReads_14 ?_
        refine lv_iload_n hx hb dX5_trialReads_17 rfl (lv_at hl 2 rfl) ?_
        obtain ⟨hi_9, hf⟩ := grd_inv hf
        refine xiald C hE hH 13 rfl hi_9 dX5_trialReads_18 ?_
        refine lv_i2l hx hb dX5_trialReads_19 rfl ?_
        refine lv_aload_n hx hb dX5_trialReads_20 rfl (lv_at hl 1 rfl) ?_
        refine gf_RX5_235 C hE hH (25 + 2 * kk1) (wX_obj hkk1 g ad R1 R2 R3 K T SN SZ F) rfl dX5_trialReads_21 ?_
        refine lv_iload_n hx hb dX5_trialReads_24 rfl (lv_at hl 3 rfl) ?_
        obtain ⟨hi_10, hf⟩ := grd_inv hf
        refine xlald C hE hH (26 + 2 * kk1) (wX_arr hkk1 g ad R1 R2 R3 K T SN SZ F) hi_10 dX5_trialReads_25 ?_
        refine W.lcmp hx hb dX5_trialReads_26 ?_
        refine lv_if_eq (tgt := 32) hx hb dX5_trialReads_27 (by decide) (fun c_11 => ?_) (fun c_11 => ?_)
        · have hf := if_p hf c_11
          refine lv_aload_n hx hb dX5_trialReads_32 rfl (lv_at hl 0 rfl) ?_
          refine gf_RX5_16 C hE hH 0 rfl rfl dX5_trialReads_33 ?_
          obtain ⟨R2_12, hc_13, hf⟩ := bind_inv hf
          refine aftV (runV C hE hA hH [8, 9, 10, 11, 12, 13, 14] nC_X_L_8_14 (sC_X_L_8_14 g ad R1 R2 R3 K T SN SZ F) (kX1_passDay l g (fun k => ad (8 + k)) _ R2 R2_12  hc_13) tw_20_17 tw_14_6 tw_14_7 tw_1_15 tw_14_8 hdX1_passDay 8 rfl rfl rfl rfl ⟨Nat.le_of_ble_eq_true rfl, Nat.le_of_ble_eq_true rfl⟩ rfl hl.1 (rest := []) rfl (Nat.le_of_ble_eq_true rfl) dX5_trialReads_36 ⟨Nat.zero_le _, Nat.zero_le _⟩) hA hH [8, 9, 10, 11, 12, 13, 14] [0, 1, 2, 3, 4, 5, 6, 7, 15, 16, 17, 18, 19, 20, 21, 22, 23, 24, 25, 26, 27, 28, 29, 30, 31, 32, 33] (sC_X_L_8_14 g ad R1 R2 R3 K T SN SZ F) (sR_X_L_8_14 g ad R1 R2 R3 K T SN SZ F) nR_X_L_8_14 dj_X_L_8_14 [0, 1, 2, 3, 4, 5, 6, 7, 27, 28, 29, 30, 31, 32, 33, 8, 9, 10, 11, 12, 13, 14, 15, 16, 17, 18, 19, 20, 21, 22, 23, 24, 25, 26] nP_X_L_8_14 (sP_X_L_8_14 g ad R1 R2 R3 K T SN SZ F R2_12) (fun H locs hH => ?_)
          obtain ⟨v_14, ev_14⟩ : ∃ z : Int32, z = y3 + (1 : Int32) := ⟨_, rfl⟩
          have hf := letb_at hf v_14 ev_14
          refine lv_iinc (v := v_14) (lv' := [(3, .int v_14), (0, .ref (ad 0)), (1, .ref (ad (25 + 2 * kk1))), (2, .int y2)]) hx hb dX5_trialReads_39 hl (k := 3) rfl (by rw [ev_14]; rfl) (by decide) rfl (fun ls hl => ?_)
          refine lv_goto (tgt := 2) hx hb dX5_trialReads_42 (by decide) ?_
          exact ih_2 kk1 hkk1 y2 v_14 R2_12 _ _ ls hf hH (lv_sub hl [1, 2, 3, 0] rfl)
        · have hf := if_n hf c_11
          exact j_30 R2 _ _ ls hf hH (lv_sub hl [] rfl)
  refine lv_iconst (v := 0) hx hb dX5_trialReads_0 (by decide) ?_
  refine lv_istore_n (lv' := [(3, .int (0 : Int32)), (0, .ref (ad 0)), (1, .ref (ad (25 + 2 * kk1))), (2, .int x2)]) hx hb dX5_trialReads_1 rfl hl (by decide) rfl (fun ls hl => ?_)
  exact lp_2 _ kk1 hkk1 x2 (0 : Int32) R2 _ _ ls hf hH (lv_sub hl [1, 2, 3, 0] rfl)
def fX5_countKindsThatRead_c21  (R1 : M2) (R2 : M2) (R3 : M2) (K : Int32) (T : M2) (SN : J2) (SZ : M2) (F : M1) : Option (Int32 × M2) := some ((0 : Int32), R2)
def fX5_countKindsThatRead_c80  (y5 : Int32) (R1 : M2) (R2 : M2) (R3 : M2) (K : Int32) (T : M2) (SN : J2) (SZ : M2) (F : M1) : Option (Int32 × M2) := some (y5, R2)
def fX5_countKindsThatRead_c74 (k_29 : Nat → Int32 → Int64 → Int32 → Int32 → M2 → M2 → M2 → Int32 → M2 → J2 → M2 → M1 → Option (Int32 × M2)) (kk1 : Nat) (y2 : Int32) (y3 : Int64) (y5 : Int32) (y6 : Int32) (R1 : M2) (R2 : M2) (R3 : M2) (K : Int32) (T : M2) (SN : J2) (SZ : M2) (F : M1) : Option (Int32 × M2) := letb (y6 + (1 : Int32)) (fun v_18 : Int32 => k_29 kk1 y2 y3 y5 v_18 R1 R2 R3 K T SN SZ F)
def fX5_countKindsThatRead_c29  : Nat → Nat → Int32 → Int64 → Int32 → Int32 → M2 → M2 → M2 → Int32 → M2 → J2 → M2 → M1 → Option (Int32 × M2)
  | 0, _, _, _, _, _, _, _, _, _, _, _, _, _ => none
  | n + 1, kk1, y2, y3, y5, y6, R1, R2, R3, K, T, SN, SZ, F => (if (6 : Int32) ≤ y6 then fX5_countKindsThatRead_c80  y5 R1 R2 R3 K T SN SZ F else (fX5_startTrial R1 R2 R3 K T SN SZ F).bind (fun (R2_20 : M2) => grd (inb y2 8) (letb (st2 R2_20 2 (upd (R2_20 2) y2.toNatClampNeg y6)) (fun R2_23 : M2 => grd (inb y2 8) (letb (st2 R2_23 5 (upd (R2_23 5) y2.toNatClampNeg (y3.toInt32))) (fun R2_25 : M2 => bind2 (fX5_trialReads kk1 y2 R1 R2_25 R3 K T SN SZ F) (fun (r_26 : Int32) (R2_27 : M2) => (if r_26 = 0 then fX5_countKindsThatRead_c74 (fX5_countKindsThatRead_c29 n) kk1 y2 y3 y5 y6 R1 R2_27 R3 K T SN SZ F else letb (y5 + (1 : Int32)) (fun v_30 : Int32 => fX5_countKindsThatRead_c74 (fX5_countKindsThatRead_c29 n) kk1 y2 y3 v_30 y6 R1 R2_27 R3 K T SN SZ F)))))))))
def fX5_countKindsThatRead (kk1 : Nat) (x2 : Int32) (R1 : M2) (R2 : M2) (R3 : M2) (K : Int32) (T : M2) (SN : J2) (SZ : M2) (F : M1) : Option (Int32 × M2) := grd (inb (0 : Int32) 40) (letb (SN kk1 (0 : Int32).toNatClampNeg) (fun v_32 : Int64 => (if (lg_cmp v_32 (0 : Int64)) < 0 then fX5_countKindsThatRead_c21  R1 R2 R3 K T SN SZ F else (if (lg_cmp v_32 (511 : Int64)) ≤ 0 then fX5_countKindsThatRead_c29  FU kk1 x2 v_32 (0 : Int32) (0 : Int32) R1 R2 R3 K T SN SZ F else fX5_countKindsThatRead_c21  R1 R2 R3 K T SN SZ F))))
def rmX5_countKindsThatRead : Room := { frames := 6, cells := 0, slots := 0, locals := 138 }
theorem hdX5_countKindsThatRead : yX5_countKindsThatRead.cls = yX5_countKindsThatRead.cls ∧ yX5_countKindsThatRead.cls ≠ "java/lang/invoke/MethodHandle" ∧ yX5_countKindsThatRead.cls ≠ "java/lang/invoke/VarHandle" ∧ (parseMethodDescriptor yX5_countKindsThatRead.desc).map (fun d => d.parameters.length) = some 2 := by decide +kernel
set_option maxHeartbeats 4000000 in
set_option maxRecDepth 100000 in
theorem kX5_countKindsThatRead (l : Launch) (g : Gl) (ad : Nat → Nat) (sz : Nat) (R1 : M2) (R2 : M2) (R3 : M2) (K : Int32) (T : M2) (SN : J2) (SZ : M2) (F : M1) (kk1 : Nat) (x2 : Int32) (r : Int32) (R2' : M2) (hkk1 : kk1 < 4) (hf : fX5_countKindsThatRead kk1 x2 R1 R2 R3 K T SN SZ F = some (r, R2')) : MetI l yX5_countKindsThatRead (Cond.code yX5_countKindsThatRead cX5_countKindsThatRead 7 (some .int) :: wsL_law) rmX5_countKindsThatRead [.ref (ad 0), .ref (ad (25 + 2 * kk1)), .int x2] g (wX g ad R1 R2 R3 K T SN SZ F) sz r (wX g ad R1 R2' R3 K T SN SZ F) := by
  refine openI (by decide +kernel) (Nat.le_of_ble_eq_true rfl) ?_
  intro p e s m args below meth c A C hE hA hH ls hl
  have hl : lv_has ls 7 [(0, .ref (ad 0)), (1, .ref (ad (25 + 2 * kk1))), (2, .int x2)] := hl
  have C : Cx p s m args meth c cX5_countKindsThatRead 7 (some .int) RX5 := C
  obtain ⟨hx, hb, hml, hown, hT, hr, hlk⟩ := id C
  rw [fX5_countKindsThatRead] at hf
  have j_21 : ∀ (R2 : M2) (H : Heap) (locs : List Loc) (ls : Array Slot), fX5_countKindsThatRead_c21  R1 R2 R3 K T SN SZ F = some (r, R2') → Hp g A s H locs (wX g ad R1 R2 R3 K T SN SZ F) → lv_has ls 7 [] → W p l e rmX5_countKindsThatRead s m args below meth c H locs 0 0 (QI g A below args s r (wX g ad R1 R2' R3 K T SN SZ F)) (F0 m 21 ls []) := by
    intro R2 H locs  ls hf hH hl
    rw [fX5_countKindsThatRead_c21] at hf
    refine lv_iconst (v := 0) hx hb dX5_countKindsThatRead_21 (by decide) ?_
    have hf := Option.some.inj hf
    obtain ⟨h1, h2⟩ := Prod.mk.inj hf
    subst h1
    subst h2
    exact retI C hH rfl dX5_countKindsThatRead_22
  have lp_29 : ∀ (n_29 : Nat) (kk1 : Nat) (hkk1 : kk1 < 4) (y2 : Int32) (y3 : Int64) (y5 : Int32) (y6 : Int32) (R2 : M2) (H : Heap) (locs : List Loc) (ls : Array Slot), fX5_countKindsThatRead_c29  n_29 kk1 y2 y3 y5 y6 R1 R2 R3 K T SN SZ F = some (r, R2') → Hp g A s H locs (wX g ad R1 R2 R3 K T SN SZ F) → lv_has ls 7 [(0, .ref (ad 0)), (1, .ref (ad (25 + 2 * kk1))), (2, .int y2), (3, .long y3), (5, .int y5), (6, .int y6)] → W p l e rmX5_countKindsThatRead s m args below meth c H locs 0 0 (QI g A below args s r (wX g ad R1 R2' R3 K T SN SZ F)) (F0 m 29 ls []) := by
    intro n_29
    induction n_29 with
    | zero =>
      intro kk1 hkk1 y2 y3 y5 y6 R2 H locs  ls hf hH hl
      rw [fX5_countKindsThatRead_c29] at hf
      cases hf
    | succ n_29 ih_29 =>
      intro kk1 hkk1 y2 y3 y5 y6 R2 H locs  ls hf hH hl
      rw [fX5_countKindsThatRead_c29] at hf
      have j_80 : ∀ (y5 : Int32) (R2 : M2) (H : Heap) (locs : List Loc) (ls : Array Slot), fX5_countKindsThatRead_c80  y5 R1 R2 R3 K T SN SZ F = some (r, R2') → Hp g A s H locs (wX g ad R1 R2 R3 K T SN SZ F) → lv_has ls 7 [(5, .int y5)] → W p l e rmX5_countKindsThatRead s m args below meth c H locs 0 0 (QI g A below args s r (wX g ad R1 R2' R3 K T SN SZ F)) (F0 m 80 ls []) := by
        intro y5 R2 H locs  ls hf hH hl
        rw [fX5_countKindsThatRead_c80] at hf
        refine lv_iload hx hb dX5_countKindsThatRead_80 (lv_at hl 0 rfl) ?_
        have hf := Option.some.inj hf
        obtain ⟨h1, h2⟩ := Prod.mk.inj hf
        subst h1
        subst h2
        exact retI C hH rfl dX5_countKindsThatRead_82
      have j_74 : ∀ (kk1 : Nat) (hkk1 : kk1 < 4) (y2 : Int32) (y3 : Int64) (y5 : Int32) (y6 : Int32) (R2 : M2) (H : Heap) (locs : List Loc) (ls : Array Slot), fX5_countKindsThatRead_c74 (fX5_countKindsThatRead_c29 n_29) kk1 y2 y3 y5 y6 R1 R2 R3 K T SN SZ F = some (r, R2') → Hp g A s H locs (wX g ad R1 R2 R3 K T SN SZ F) → lv_has ls 7 [(0, .ref (ad 0)), (1, .ref (ad (25 + 2 * kk1))), (2, .int y2), (3, .long y3), (5, .int y5), (6, .int y6)] → W p l e rmX5_countKindsThatRead s m args below meth c H locs 0 0 (QI g A below args s r (wX g ad R1 R2' R3 K T SN SZ F)) (F0 m 74 ls []) := by
        intro kk1 hkk1 y2 y3 y5 y6 R2 H locs  ls hf hH hl
        rw [fX5_countKindsThatRead_c74] at hf
        obtain ⟨v_18, ev_18⟩ : ∃ z : Int32, z = y6 + (1 : Int32) := ⟨_, rfl⟩
        have hf := letb_at hf v_18 ev_18
        refine lv_iinc (v := v_18) (lv' := [(6, .int v_18), (0, .ref (ad 0)), (1, .ref (ad (25 + 2 * kk1))), (2, .int y2), (3, .long y3), (5, .int y5)]) hx hb dX5_countKindsThatRead_74 hl (k := 5) rfl (by rw [ev_18]; rfl) (by decide) rfl (fun ls hl => ?_)
        refine lv_goto (tgt := 29) hx hb dX5_countKindsThatRead_77 (by decide) ?_
        exact ih_29 kk1 hkk1 y2 y3 y5 v_18 R2 _ _ ls hf hH (lv_sub hl [1, 2, 3, 4, 5, 0] rfl)
      refine lv_iload hx hb dX5_countKindsThatRead_29 (lv_at hl 5 rfl) ?_
      refine lv_bipush (v := 6) hx hb dX5_countKindsThatRead_31 (by decide) ?_
      refine lv_icmp_ge (tgt := 80) hx hb dX5_countKindsThatRead_33 (by decide) (fun c_19 => ?_) (fun c_19 => ?_)
      · have hf := if_p hf c_19
        exact j_80 y5 R2 _ _ ls hf hH (lv_sub hl [4] rfl)
      · have hf := if_n hf c_19
        refine lv_aload_n hx hb dX5_countKindsThatRead_36 rfl (lv_at hl 0 rfl) ?_
        obtain ⟨R2_20, hc_21, hf⟩ := bind_inv hf
        refine aftV (runV C hE hA hH [0, 1, 2, 3, 4, 5, 6, 7, 8, 9, 10, 11, 12, 13, 14, 15, 16, 17, 18, 19, 20, 21, 22, 23, 24, 25, 26, 27, 28, 29, 30, 31, 32, 33] nC_X_X_0_33 (sC_X_X_0_33 g ad R1 R2 R3 K T SN SZ F) (kX5_startTrial l g ad _ R1 R2 R3 K T SN SZ F R2_20  hc_21) tw_18_14 tw_18_15 tw_18_16 tw_1_2 tw_18_17 hdX5_startTrial 0 rfl rfl rfl rfl ⟨Nat.le_of_ble_eq_true rfl, Nat.le_of_ble_eq_true rfl⟩ rfl hl.1 (rest := []) rfl (Nat.le_of_ble_eq_true rfl) dX5_countKindsThatRead_37 ⟨Nat.zero_le _, Nat.zero_le _⟩) hA hH [0, 1, 2, 3, 4, 5, 6, 7, 8, 9, 10, 11, 12, 13, 14, 15, 16, 17, 18, 19, 20, 21, 22, 23, 24, 25, 26, 27, 28, 29, 30, 31, 32, 33] [] (sC_X_X_0_33 g ad R1 R2 R3 K T SN SZ F) (sR_X_X_0_33 g ad R1 R2 R3 K T SN SZ F) nR_X_X_0_33 dj_X_X_0_33 [0, 1, 2, 3, 4, 5, 6, 7, 8, 9, 10, 11, 12, 13, 14, 15, 16, 17, 18, 19, 20, 21, 22, 23, 24, 25, 26, 27, 28, 29, 30, 31, 32, 33] nP_X_X_0_33 (sP_X_X_0_33 g ad R1 R2 R3 K T SN SZ F R1 R2_20 R3 K T SN SZ F) (fun H locs hH => ?_)
        refine lv_aload_n hx hb dX5_countKindsThatRead_40 rfl (lv_at hl 0 rfl) ?_
        refine gf_RX5_16 C hE hH 0 rfl rfl dX5_countKindsThatRead_41 ?_
        refine gf_RX5_93 C hE hH 8 rfl rfl dX5_countKindsThatRead_44 ?_
        refine lv_iload_n hx hb dX5_countKindsThatRead_47 rfl (lv_at hl 2 rfl) ?_
        refine lv_iload hx hb dX5_countKindsThatRead_48 (lv_at hl 5 rfl) ?_
        obtain ⟨hi_22, hf⟩ := grd_inv hf
        refine xiast C hE hH 10 rfl hi_22 (fun q : M2 => wX g ad R1 q R3 K T SN SZ F) (st2 R2_20 2 (upd (R2_20 2) y2.toNatClampNeg y6)) rfl dX5_countKindsThatRead_50 (fun R2_23 eR2_23 H locs hH => ?_)
        have hf := letb_at hf R2_23 eR2_23
        refine lv_aload_n hx hb dX5_countKindsThatRead_51 rfl (lv_at hl 0 rfl) ?_
        refine gf_RX5_16 C hE hH 0 rfl rfl dX5_countKindsThatRead_52 ?_
        refine gf_RX5_102 C hE hH 8 rfl rfl dX5_countKindsThatRead_55 ?_
        refine lv_iload_n hx hb dX5_countKindsThatRead_58 rfl (lv_at hl 2 rfl) ?_
        refine lv_lload_n hx hb dX5_countKindsThatRead_59 rfl (lv_at hl 3 rfl) ?_
        refine lv_l2i hx hb dX5_countKindsThatRead_60 rfl ?_
        obtain ⟨hi_24, hf⟩ := grd_inv hf
        refine xiast C hE hH 13 rfl hi_24 (fun q : M2 => wX g ad R1 q R3 K T SN SZ F) (st2 R2_23 5 (upd (R2_23 5) y2.toNatClampNeg (y3.toInt32))) rfl dX5_countKindsThatRead_61 (fun R2_25 eR2_25 H locs hH => ?_)
        have hf := letb_at hf R2_25 eR2_25
        refine lv_aload_n hx hb dX5_countKindsThatRead_62 rfl (lv_at hl 0 rfl) ?_
        refine lv_aload_n hx hb dX5_countKindsThatRead_63 rfl (lv_at hl 1 rfl) ?_
        refine lv_iload_n hx hb dX5_countKindsThatRead_64 rfl (lv_at hl 2 rfl) ?_
        obtain ⟨r_26, R2_27, hc_28, hf⟩ := bind2_inv hf
        refine aftI (runV C hE hA hH [0, 1, 2, 3, 4, 5, 6, 7, 8, 9, 10, 11, 12, 13, 14, 15, 16, 17, 18, 19, 20, 21, 22, 23, 24, 25, 26, 27, 28, 29, 30, 31, 32, 33] nC_X_X_0_33 (sC_X_X_0_33 g ad R1 R2_25 R3 K T SN SZ F) (kX5_trialReads l g ad _ R1 R2_25 R3 K T SN SZ F kk1 y2 r_26 R2_27 hkk1 hc_28) tw_38_4 tw_38_5 tw_38_6 tw_1_2 tw_38_7 hdX5_trialReads 0 rfl rfl rfl rfl ⟨Nat.le_of_ble_eq_true rfl, Nat.le_of_ble_eq_true rfl⟩ rfl hl.1 (rest := []) rfl (Nat.le_of_ble_eq_true rfl) dX5_countKindsThatRead_65 ⟨Nat.zero_le _, Nat.zero_le _⟩) hA hH [0, 1, 2, 3, 4, 5, 6, 7, 8, 9, 10, 11, 12, 13, 14, 15, 16, 17, 18, 19, 20, 21, 22, 23, 24, 25, 26, 27, 28, 29, 30, 31, 32, 33] [] (sC_X_X_0_33 g ad R1 R2_25 R3 K T SN SZ F) (sR_X_X_0_33 g ad R1 R2_25 R3 K T SN SZ F) nR_X_X_0_33 dj_X_X_0_33 [0, 1, 2, 3, 4, 5, 6, 7, 8, 9, 10, 11, 12, 13, 14, 15, 16, 17, 18, 19, 20, 21, 22, 23, 24, 25, 26, 27, 28, 29, 30, 31, 32, 33] nP_X_X_0_33 (sP_X_X_0_33 g ad R1 R2_25 R3 K T SN SZ F R1 R2_27 R3 K T SN SZ F) (fun H locs hH => ?_)
        refine lv_if_eq (tgt := 74) hx hb dX5_countKindsThatRead_68 (by decide) (fun c_29 => ?_) (fun c_29 => ?_)
        · have hf := if_p hf c_29
          exact j_74 kk1 hkk1 y2 y3 y5 y6 R2_27 _ _ ls hf hH (lv_sub hl [0, 1, 2, 3, 4, 5] rfl)
        · have hf := if_n hf c_29
          obtain ⟨v_30, ev_30⟩ : ∃ z : Int32, z = y5 + (1 : Int32) := ⟨_, rfl⟩
          have hf := letb_at hf v_30 ev_30
          refine lv_iinc (v := v_30) (lv' := [(5, .int v_30), (0, .ref (ad 0)), (1, .ref (ad (25 + 2 * kk1))), (2, .int y2), (3, .long y3), (6, .int y6)]) hx hb dX5_countKindsThatRead_71 hl (k := 4) rfl (by rw [ev_30]; rfl) (by decide) rfl (fun ls hl => ?_)
          exact j_74 kk1 hkk1 y2 y3 v_30 y6 R2_27 _ _ ls hf hH (lv_sub hl [1, 2, 3, 4, 0, 5] rfl)
  refine lv_aload_n hx hb dX5_countKindsThatRead_0 rfl (lv_at hl 1 rfl) ?_
  refine gf_RX5_235 C hE hH (25 + 2 * kk1) (wX_obj hkk1 g ad R1 R2 R3 K T SN SZ F) rfl dX5_countKindsThatRead_1 ?_
  refine lv_iconst (v := 0) hx hb dX5_countKindsThatRead_4 (by decide) ?_
  obtain ⟨hi_31, hf⟩ := grd_inv hf
  refine xlald C hE hH (26 + 2 * kk1) (wX_arr hkk1 g ad R1 R2 R3 K T SN SZ F) hi_31 dX5_countKindsThatRead_5 ?_
  refine lv_topl (fun v_32 ev_32 => ?_)
  have hf := letb_at hf v_32 ev_32
  refine lv_lstore_n (lv' := [(3, .long v_32), (0, .ref (ad 0)), (1, .ref (ad (25 + 2 * kk1))), (2, .int x2)]) hx hb dX5_countKindsThatRead_6 rfl hl (by decide) rfl (fun ls hl => ?_)
  refine lv_lload_n hx hb dX5_countKindsThatRead_7 rfl (lv_at hl 0 rfl) ?_
  refine lv_lconst (v := 0) hx hb dX5_countKindsThatRead_8 (by decide) ?_
  refine W.lcmp hx hb dX5_countKindsThatRead_9 ?_
  refine lv_if_lt (tgt := 21) hx hb dX5_countKindsThatRead_10 (by decide) (fun c_33 => ?_) (fun c_33 => ?_)
  · have hf := if_p hf c_33
    exact j_21 R2 _ _ ls hf hH (lv_sub hl [] rfl)
  · have hf := if_n hf c_33
    refine lv_lload_n hx hb dX5_countKindsThatRead_13 rfl (lv_at hl 0 rfl) ?_
    refine W.ldc2 hx hb hown (hT _ tw_38_3) rfl dX5_countKindsThatRead_14 ?_
    refine W.eq (g2 := F0 m 17 ls [.long (511 : Int64), .long v_32]) rfl ?_
    refine W.lcmp hx hb dX5_countKindsThatRead_17 ?_
    refine lv_if_le (tgt := 23) hx hb dX5_countKindsThatRead_18 (by decide) (fun c_34 => ?_) (fun c_34 => ?_)
    · have hf := if_p hf c_34
      refine lv_iconst (v := 0) hx hb dX5_countKindsThatRead_23 (by decide) ?_
      refine lv_istore (lv' := [(5, .int (0 : Int32)), (3, .long v_32), (0, .ref (ad 0)), (1, .ref (ad (25 + 2 * kk1))), (2, .int x2)]) hx hb dX5_countKindsThatRead_24 hl (by decide) rfl (fun ls hl => ?_)
      refine lv_iconst (v := 0) hx hb dX5_countKindsThatRead_26 (by decide) ?_
      refine lv_istore (lv' := [(6, .int (0 : Int32)), (5, .int (0 : Int32)), (3, .long v_32), (0, .ref (ad 0)), (1, .ref (ad (25 + 2 * kk1))), (2, .int x2)]) hx hb dX5_countKindsThatRead_27 hl (by decide) rfl (fun ls hl => ?_)
      exact lp_29 _ kk1 hkk1 x2 v_32 (0 : Int32) (0 : Int32) R2 _ _ ls hf hH (lv_sub hl [3, 4, 5, 2, 1, 0] rfl)
    · have hf := if_n hf c_34
      exact j_21 R2 _ _ ls hf hH (lv_sub hl [] rfl)
def fX5_read (x1 : Int32) (x2 : Int32) (R1 : M2) (R2 : M2) (R3 : M2) (K : Int32) (T : M2) (SN : J2) (SZ : M2) (F : M1) : Option (Int32 × M2 × M1) := (if inb x1 4 = true then letb x1.toNatClampNeg (fun k_27 : Nat => (fX2_isMissing (SN k_27) (SZ k_27)).bind (fun (r_28 : Int32) => (if r_28 = 0 then (fX1_hasKeeper x2 R1).bind (fun (r_31 : Int32) => (if r_31 = 0 then bind2 (fX5_tell (-1000000001 : Int32) R1 R2 R3 K T SN SZ F) (fun (r_42 : Int32) (F_43 : M1) => some (r_42, R2, F_43)) else (if (SZ k_27 1) ≤ (8 : Int32) then (if (SZ k_27 1) = 0 then some ((3072 : Int32), R2, F) else bind2 (fX5_countKindsThatRead k_27 x2 R1 R2 R3 K T SN SZ F) (fun (r_36 : Int32) (R2_37 : M2) => some (r_36, R2_37, F))) else bind2 (fX5_tell (-1000000007 : Int32) R1 R2 R3 K T SN SZ F) (fun (r_39 : Int32) (F_40 : M1) => some (r_39, R2, F_40))))) else bind2 (fX5_tell (-1000000006 : Int32) R1 R2 R3 K T SN SZ F) (fun (r_45 : Int32) (F_46 : M1) => some (r_45, R2, F_46))))) else bind2 (fX5_tell (-1000000001 : Int32) R1 R2 R3 K T SN SZ F) (fun (r_48 : Int32) (F_49 : M1) => some (r_48, R2, F_49)))
def rmX5_read : Room := { frames := 7, cells := 0, slots := 0, locals := 164 }
theorem hdX5_read : yX5_read.cls = yX5_read.cls ∧ yX5_read.cls ≠ "java/lang/invoke/MethodHandle" ∧ yX5_read.cls ≠ "java/lang/invoke/VarHandle" ∧ (parseMethodDescriptor yX5_read.desc).map (fun d => d.parameters.length) = some 2 := by decide +kernel
set_option maxHeartbeats 4000000 in
set_option maxRecDepth 100000 in
theorem kX5_read (l : Launch) (g : Gl) (ad : Nat → Nat) (sz : Nat) (R1 : M2) (R2 : M2) (R3 : M2) (K : Int32) (T : M2) (SN : J2) (SZ : M2) (F : M1) (x1 : Int32) (x2 : Int32) (r : Int32) (R2' : M2) (F' : M1)  (hf : fX5_read x1 x2 R1 R2 R3 K T SN SZ F = some (r, R2', F')) : MetI l yX5_read (Cond.code yX5_read cX5_read 4 (some .int) :: wsL_law) rmX5_read [.ref (ad 0), .int x1, .int x2] g (wX g ad R1 R2 R3 K T SN SZ F) sz r (wX g ad R1 R2' R3 K T SN SZ F') := by
  refine openI (by decide +kernel) (Nat.le_of_ble_eq_true rfl) ?_
  intro p e s m args below meth c A C hE hA hH ls hl
  have hl : lv_has ls 4 [(0, .ref (ad 0)), (1, .int x1), (2, .int x2)] := hl
  have C : Cx p s m args meth c cX5_read 4 (some .int) RX5 := C
  obtain ⟨hx, hb, hml, hown, hT, hr, hlk⟩ := id C
  rw [fX5_read] at hf
  refine lv_aload_n hx hb dX5_read_0 rfl (lv_at hl 0 rfl) ?_
  refine lv_iload_n hx hb dX5_read_1 rfl (lv_at hl 1 rfl) ?_
  refine aftPA (runV C hE hA hH [0, 1, 2, 3, 4, 5, 6, 7, 8, 9, 10, 11, 12, 13, 14, 15, 16, 17, 18, 19, 20, 21, 22, 23, 24, 25, 26, 27, 28, 29, 30, 31, 32, 33] nC_X_X_0_33 (sC_X_X_0_33 g ad R1 R2 R3 K T SN SZ F) (kX5_sheetAt l g ad _ R1 R2 R3 K T SN SZ F x1) tw_34_6 tw_34_7 tw_34_8 tw_1_2 tw_34_9 hdX5_sheetAt 0 rfl rfl rfl rfl ⟨Nat.le_of_ble_eq_true rfl, Nat.le_of_ble_eq_true rfl⟩ rfl hl.1 (rest := []) rfl (Nat.le_of_ble_eq_true rfl) dX5_read_2 ⟨Nat.zero_le _, Nat.zero_le _⟩) ?_
  by_cases c_26 : inb x1 4 = true
  · have hf := if_p hf c_26
    rw [shv, if_pos c_26]
    have hk_27 : x1.toNatClampNeg < 4 := Nat.not_le.mp fun q => inb_in c_26 (Or.inr q)
    generalize ek_27 : x1.toNatClampNeg = k_27 at hk_27 ⊢
    have hf := letb_at hf k_27 ek_27.symm
    refine lv_astore_n (lv' := [(3, .ref (ad (25 + 2 * k_27))), (0, .ref (ad 0)), (1, .int x1), (2, .int x2)]) hx hb dX5_read_5 rfl hl (by decide) rfl (fun ls hl => ?_)
    refine lv_aload_n hx hb dX5_read_6 rfl (lv_at hl 0 rfl) ?_
    refine lv_ifnonnull (tgt := 17) hx hb dX5_read_7 (by decide) ?_
    refine lv_aload_n hx hb dX5_read_17 rfl (lv_at hl 0 rfl) ?_
    obtain ⟨r_28, hc_29, hf⟩ := bind_inv hf
    refine aftPI (runV C hE hA hH [25 + 2 * k_27, 26 + 2 * k_27] (nK hk_27) (sK hk_27 g ad R1 R2 R3 K T SN SZ F) (kX2_isMissing l g (fun j => ad (25 + 2 * k_27 + j)) _ (SN k_27) (SZ k_27) r_28 hc_29) tw_35_11 tw_35_12 tw_35_13 tw_2_3 tw_35_14 hdX2_isMissing (25 + 2 * k_27) (wX_obj hk_27 g ad R1 R2 R3 K T SN SZ F) rfl rfl rfl ⟨Nat.le_of_ble_eq_true rfl, Nat.le_of_ble_eq_true rfl⟩ rfl hl.1 (rest := []) rfl (Nat.le_of_ble_eq_true rfl) dX5_read_18 ⟨Nat.zero_le _, Nat.zero_le _⟩) ?_
    refine lv_if_eq (tgt := 31) hx hb dX5_read_21 (by decide) (fun c_30 => ?_) (fun c_30 => ?_)
    · have hf := if_p hf c_30
      refine lv_aload_n hx hb dX5_read_31 rfl (lv_at hl 1 rfl) ?_
      refine gf_RX5_10 C hE hH 0 rfl rfl dX5_read_32 ?_
      refine lv_iload_n hx hb dX5_read_35 rfl (lv_at hl 3 rfl) ?_
      obtain ⟨r_31, hc_32, hf⟩ := bind_inv hf
      refine aftPI (runV C hE hA hH [1, 2, 3, 4, 5, 6, 7] nC_X_L_1_7 (sC_X_L_1_7 g ad R1 R2 R3 K T SN SZ F) (kX1_hasKeeper l g (fun k => ad (1 + k)) _ R1 x2 r_31  hc_32) tw_9_6 tw_9_7 tw_9_8 tw_1_15 tw_9_9 hdX1_hasKeeper 1 rfl rfl rfl rfl ⟨Nat.le_of_ble_eq_true rfl, Nat.le_of_ble_eq_true rfl⟩ rfl hl.1 (rest := []) rfl (Nat.le_of_ble_eq_true rfl) dX5_read_36 ⟨Nat.zero_le _, Nat.zero_le _⟩) ?_
      refine lv_if_ne (tgt := 49) hx hb dX5_read_39 (by decide) (fun c_33 => ?_) (fun c_33 => ?_)
      · have hf := if_n hf c_33
        refine lv_aload_n hx hb dX5_read_49 rfl (lv_at hl 0 rfl) ?_
        refine gf_RX5_228 C hE hH (25 + 2 * k_27) (wX_obj hk_27 g ad R1 R2 R3 K T SN SZ F) rfl dX5_read_50 ?_
        refine lv_bipush (v := 8) hx hb dX5_read_53 (by decide) ?_
        refine lv_icmp_le (tgt := 65) hx hb dX5_read_55 (by decide) (fun c_34 => ?_) (fun c_34 => ?_)
        · have hf := if_p hf c_34
          refine lv_aload_n hx hb dX5_read_65 rfl (lv_at hl 0 rfl) ?_
          refine gf_RX5_228 C hE hH (25 + 2 * k_27) (wX_obj hk_27 g ad R1 R2 R3 K T SN SZ F) rfl dX5_read_66 ?_
          refine lv_if_ne (tgt := 76) hx hb dX5_read_69 (by decide) (fun c_35 => ?_) (fun c_35 => ?_)
          · have hf := if_n hf c_35
            refine lv_aload_n hx hb dX5_read_76 rfl (lv_at hl 1 rfl) ?_
            refine lv_aload_n hx hb dX5_read_77 rfl (lv_at hl 0 rfl) ?_
            refine lv_iload_n hx hb dX5_read_78 rfl (lv_at hl 3 rfl) ?_
            obtain ⟨r_36, R2_37, hc_38, hf⟩ := bind2_inv hf
            refine aftI (runV C hE hA hH [0, 1, 2, 3, 4, 5, 6, 7, 8, 9, 10, 11, 12, 13, 14, 15, 16, 17, 18, 19, 20, 21, 22, 23, 24, 25, 26, 27, 28, 29, 30, 31, 32, 33] nC_X_X_0_33 (sC_X_X_0_33 g ad R1 R2 R3 K T SN SZ F) (kX5_countKindsThatRead l g ad _ R1 R2 R3 K T SN SZ F k_27 x2 r_36 R2_37 hk_27 hc_38) tw_37_23 tw_38_0 tw_38_1 tw_1_2 tw_38_2 hdX5_countKindsThatRead 0 rfl rfl rfl rfl ⟨Nat.le_of_ble_eq_true rfl, Nat.le_of_ble_eq_true rfl⟩ rfl hl.1 (rest := []) rfl (Nat.le_of_ble_eq_true rfl) dX5_read_79 ⟨Nat.zero_le _, Nat.zero_le _⟩) hA hH [0, 1, 2, 3, 4, 5, 6, 7, 8, 9, 10, 11, 12, 13, 14, 15, 16, 17, 18, 19, 20, 21, 22, 23, 24, 25, 26, 27, 28, 29, 30, 31, 32, 33] [] (sC_X_X_0_33 g ad R1 R2 R3 K T SN SZ F) (sR_X_X_0_33 g ad R1 R2 R3 K T SN SZ F) nR_X_X_0_33 dj_X_X_0_33 [0, 1, 2, 3, 4, 5, 6, 7, 8, 9, 10, 11, 12, 13, 14, 15, 16, 17, 18, 19, 20, 21, 22, 23, 24, 25, 26, 27, 28, 29, 30, 31, 32, 33] nP_X_X_0_33 (sP_X_X_0_33 g ad R1 R2 R3 K T SN SZ F R1 R2_37 R3 K T SN SZ F) (fun H locs hH => ?_)
            have hf := Option.some.inj hf
            obtain ⟨h1, hf⟩ := Prod.mk.inj hf
            obtain ⟨h2, h3⟩ := Prod.mk.inj hf
            subst h1
            subst h2
            subst h3
            exact retI C hH rfl dX5_read_82
          · have hf := if_p hf c_35
            refine lv_sipush (v := 3072) hx hb dX5_read_72 (by decide) ?_
            have hf := Option.some.inj hf
            obtain ⟨h1, hf⟩ := Prod.mk.inj hf
            obtain ⟨h2, h3⟩ := Prod.mk.inj hf
            subst h1
            subst h2
            subst h3
            exact retI C hH rfl dX5_read_75
        · have hf := if_n hf c_34
          refine lv_aload_n hx hb dX5_read_58 rfl (lv_at hl 1 rfl) ?_
          refine lv_ldc hx hb hown (hT _ tw_34_4) dX5_read_59 ?_
          obtain ⟨r_39, F_40, hc_41, hf⟩ := bind2_inv hf
          refine aftI (runV C hE hA hH [0, 1, 2, 3, 4, 5, 6, 7, 8, 9, 10, 11, 12, 13, 14, 15, 16, 17, 18, 19, 20, 21, 22, 23, 24, 25, 26, 27, 28, 29, 30, 31, 32, 33] nC_X_X_0_33 (sC_X_X_0_33 g ad R1 R2 R3 K T SN SZ F) (kX5_tell l g ad _ R1 R2 R3 K T SN SZ F (-1000000007 : Int32) r_39 F_40  hc_41) tw_4_17 tw_4_18 tw_4_19 tw_1_2 tw_4_20 hdX5_tell 0 rfl rfl rfl rfl ⟨Nat.le_of_ble_eq_true rfl, Nat.le_of_ble_eq_true rfl⟩ rfl hl.1 (rest := []) rfl (Nat.le_of_ble_eq_true rfl) dX5_read_61 ⟨Nat.zero_le _, Nat.zero_le _⟩) hA hH [0, 1, 2, 3, 4, 5, 6, 7, 8, 9, 10, 11, 12, 13, 14, 15, 16, 17, 18, 19, 20, 21, 22, 23, 24, 25, 26, 27, 28, 29, 30, 31, 32, 33] [] (sC_X_X_0_33 g ad R1 R2 R3 K T SN SZ F) (sR_X_X_0_33 g ad R1 R2 R3 K T SN SZ F) nR_X_X_0_33 dj_X_X_0_33 [0, 1, 2, 3, 4, 5, 6, 7, 8, 9, 10, 11, 12, 13, 14, 15, 16, 17, 18, 19, 20, 21, 22, 23, 24, 25, 26, 27, 28, 29, 30, 31, 32, 33] nP_X_X_0_33 (sP_X_X_0_33 g ad R1 R2 R3 K T SN SZ F R1 R2 R3 K T SN SZ F_40) (fun H locs hH => ?_)
          have hf := Option.some.inj hf
          obtain ⟨h1, hf⟩ := Prod.mk.inj hf
          obtain ⟨h2, h3⟩ := Prod.mk.inj hf
          subst h1
          subst h2
          subst h3
          exact retI C hH rfl dX5_read_64
      · have hf := if_p hf c_33
        refine lv_aload_n hx hb dX5_read_42 rfl (lv_at hl 1 rfl) ?_
        refine lv_ldc hx hb hown (hT _ tw_4_12) dX5_read_43 ?_
        obtain ⟨r_42, F_43, hc_44, hf⟩ := bind2_inv hf
        refine aftI (runV C hE hA hH [0, 1, 2, 3, 4, 5, 6, 7, 8, 9, 10, 11, 12, 13, 14, 15, 16, 17, 18, 19, 20, 21, 22, 23, 24, 25, 26, 27, 28, 29, 30, 31, 32, 33] nC_X_X_0_33 (sC_X_X_0_33 g ad R1 R2 R3 K T SN SZ F) (kX5_tell l g ad _ R1 R2 R3 K T SN SZ F (-1000000001 : Int32) r_42 F_43  hc_44) tw_4_17 tw_4_18 tw_4_19 tw_1_2 tw_4_20 hdX5_tell 0 rfl rfl rfl rfl ⟨Nat.le_of_ble_eq_true rfl, Nat.le_of_ble_eq_true rfl⟩ rfl hl.1 (rest := []) rfl (Nat.le_of_ble_eq_true rfl) dX5_read_45 ⟨Nat.zero_le _, Nat.zero_le _⟩) hA hH [0, 1, 2, 3, 4, 5, 6, 7, 8, 9, 10, 11, 12, 13, 14, 15, 16, 17, 18, 19, 20, 21, 22, 23, 24, 25, 26, 27, 28, 29, 30, 31, 32, 33] [] (sC_X_X_0_33 g ad R1 R2 R3 K T SN SZ F) (sR_X_X_0_33 g ad R1 R2 R3 K T SN SZ F) nR_X_X_0_33 dj_X_X_0_33 [0, 1, 2, 3, 4, 5, 6, 7, 8, 9, 10, 11, 12, 13, 14, 15, 16, 17, 18, 19, 20, 21, 22, 23, 24, 25, 26, 27, 28, 29, 30, 31, 32, 33] nP_X_X_0_33 (sP_X_X_0_33 g ad R1 R2 R3 K T SN SZ F R1 R2 R3 K T SN SZ F_43) (fun H locs hH => ?_)
        have hf := Option.some.inj hf
        obtain ⟨h1, hf⟩ := Prod.mk.inj hf
        obtain ⟨h2, h3⟩ := Prod.mk.inj hf
        subst h1
        subst h2
        subst h3
        exact retI C hH rfl dX5_read_48
    · have hf := if_n hf c_30
      refine lv_aload_n hx hb dX5_read_24 rfl (lv_at hl 1 rfl) ?_
      refine lv_ldc hx hb hown (hT _ tw_35_9) dX5_read_25 ?_
      obtain ⟨r_45, F_46, hc_47, hf⟩ := bind2_inv hf
      refine aftI (runV C hE hA hH [0, 1, 2, 3, 4, 5, 6, 7, 8, 9, 10, 11, 12, 13, 14, 15, 16, 17, 18, 19, 20, 21, 22, 23, 24, 25, 26, 27, 28, 29, 30, 31, 32, 33] nC_X_X_0_33 (sC_X_X_0_33 g ad R1 R2 R3 K T SN SZ F) (kX5_tell l g ad _ R1 R2 R3 K T SN SZ F (-1000000006 : Int32) r_45 F_46  hc_47) tw_4_17 tw_4_18 tw_4_19 tw_1_2 tw_4_20 hdX5_tell 0 rfl rfl rfl rfl ⟨Nat.le_of_ble_eq_true rfl, Nat.le_of_ble_eq_true rfl⟩ rfl hl.1 (rest := []) rfl (Nat.le_of_ble_eq_true rfl) dX5_read_27 ⟨Nat.zero_le _, Nat.zero_le _⟩) hA hH [0, 1, 2, 3, 4, 5, 6, 7, 8, 9, 10, 11, 12, 13, 14, 15, 16, 17, 18, 19, 20, 21, 22, 23, 24, 25, 26, 27, 28, 29, 30, 31, 32, 33] [] (sC_X_X_0_33 g ad R1 R2 R3 K T SN SZ F) (sR_X_X_0_33 g ad R1 R2 R3 K T SN SZ F) nR_X_X_0_33 dj_X_X_0_33 [0, 1, 2, 3, 4, 5, 6, 7, 8, 9, 10, 11, 12, 13, 14, 15, 16, 17, 18, 19, 20, 21, 22, 23, 24, 25, 26, 27, 28, 29, 30, 31, 32, 33] nP_X_X_0_33 (sP_X_X_0_33 g ad R1 R2 R3 K T SN SZ F R1 R2 R3 K T SN SZ F_46) (fun H locs hH => ?_)
      have hf := Option.some.inj hf
      obtain ⟨h1, hf⟩ := Prod.mk.inj hf
      obtain ⟨h2, h3⟩ := Prod.mk.inj hf
      subst h1
      subst h2
      subst h3
      exact retI C hH rfl dX5_read_30
  · have hf := if_n hf c_26
    rw [shv, if_neg c_26]
    refine lv_astore_nN (lv' := [(3, .null), (0, .ref (ad 0)), (1, .int x1), (2, .int x2)]) hx hb dX5_read_5 rfl hl (by decide) rfl (fun ls hl => ?_)
    refine lv_aload_nN hx hb dX5_read_6 rfl (lv_at hl 0 rfl) ?_
    refine lv_ifnonnullN hx hb dX5_read_7 ?_
    refine lv_aload_n hx hb dX5_read_10 rfl (lv_at hl 1 rfl) ?_
    refine lv_ldc hx hb hown (hT _ tw_4_12) dX5_read_11 ?_
    obtain ⟨r_48, F_49, hc_50, hf⟩ := bind2_inv hf
    refine aftI (runV C hE hA hH [0, 1, 2, 3, 4, 5, 6, 7, 8, 9, 10, 11, 12, 13, 14, 15, 16, 17, 18, 19, 20, 21, 22, 23, 24, 25, 26, 27, 28, 29, 30, 31, 32, 33] nC_X_X_0_33 (sC_X_X_0_33 g ad R1 R2 R3 K T SN SZ F) (kX5_tell l g ad _ R1 R2 R3 K T SN SZ F (-1000000001 : Int32) r_48 F_49  hc_50) tw_4_17 tw_4_18 tw_4_19 tw_1_2 tw_4_20 hdX5_tell 0 rfl rfl rfl rfl ⟨Nat.le_of_ble_eq_true rfl, Nat.le_of_ble_eq_true rfl⟩ rfl hl.1 (rest := []) rfl (Nat.le_of_ble_eq_true rfl) dX5_read_13 ⟨Nat.zero_le _, Nat.zero_le _⟩) hA hH [0, 1, 2, 3, 4, 5, 6, 7, 8, 9, 10, 11, 12, 13, 14, 15, 16, 17, 18, 19, 20, 21, 22, 23, 24, 25, 26, 27, 28, 29, 30, 31, 32, 33] [] (sC_X_X_0_33 g ad R1 R2 R3 K T SN SZ F) (sR_X_X_0_33 g ad R1 R2 R3 K T SN SZ F) nR_X_X_0_33 dj_X_X_0_33 [0, 1, 2, 3, 4, 5, 6, 7, 8, 9, 10, 11, 12, 13, 14, 15, 16, 17, 18, 19, 20, 21, 22, 23, 24, 25, 26, 27, 28, 29, 30, 31, 32, 33] nP_X_X_0_33 (sP_X_X_0_33 g ad R1 R2 R3 K T SN SZ F R1 R2 R3 K T SN SZ F_49) (fun H locs hH => ?_)
    have hf := Option.some.inj hf
    obtain ⟨h1, hf⟩ := Prod.mk.inj hf
    obtain ⟨h2, h3⟩ := Prod.mk.inj hf
    subst h1
    subst h2
    subst h3
    exact retI C hH rfl dX5_read_16
