def fX5_tell_c25  (y1 : Int32) (R1 : M2) (R2 : M2) (R3 : M2) (K : Int32) (T : M2) (SN : J2) (SZ : M2) (F : M1) : Option (Int32 × M1) := some (y1, F)
def fX5_tell (x1 : Int32) (R1 : M2) (R2 : M2) (R3 : M2) (K : Int32) (T : M2) (SN : J2) (SZ : M2) (F : M1) : Option (Int32 × M1) := letb ((-1000000001 : Int32) - x1) (fun v_8 : Int32 => (fX5_within v_8 (0 : Int32) (6 : Int32)).bind (fun (r_9 : Int32) => (if r_9 = 0 then fX5_tell_c25  x1 R1 R2 R3 K T SN SZ F else grd (inb v_8 7) (grd (inb v_8 7) (letb (upd F v_8.toNatClampNeg ((F v_8.toNatClampNeg) + (1 : Int32))) (fun F_14 : M1 => fX5_tell_c25  x1 R1 R2 R3 K T SN SZ F_14))))))
def rmX5_tell : Room := { frames := 1, cells := 0, slots := 0, locals := 22 }
theorem hdX5_tell : yX5_tell.cls = yX5_tell.cls ∧ yX5_tell.cls ≠ "java/lang/invoke/MethodHandle" ∧ yX5_tell.cls ≠ "java/lang/invoke/VarHandle" ∧ (parseMethodDescriptor yX5_tell.desc).map (fun d => d.parameters.length) = some 1 := by decide +kernel
set_option maxHeartbeats 4000000 in
set_option maxRecDepth 100000 in
theorem kX5_tell (l : Launch) (g : Gl) (ad : Nat → Nat) (sz : Nat) (R1 : M2) (R2 : M2) (R3 : M2) (K : Int32) (T : M2) (SN : J2) (SZ : M2) (F : M1) (x1 : Int32) (r : Int32) (F' : M1)  (hf : fX5_tell x1 R1 R2 R3 K T SN SZ F = some (r, F')) : MetI l yX5_tell (Cond.code yX5_tell cX5_tell 3 (some .int) :: wsL_law) rmX5_tell [.ref (ad 0), .int x1] g (wX g ad R1 R2 R3 K T SN SZ F) sz r (wX g ad R1 R2 R3 K T SN SZ F') := by
  refine openI (by decide +kernel) (Nat.le_of_ble_eq_true rfl) ?_
  intro p e s m args below meth c A C hE hA hH ls hl
  have hl : lv_has ls 3 [(0, .ref (ad 0)), (1, .int x1)] := hl
  have C : Cx p s m args meth c cX5_tell 3 (some .int) RX5 := C
  obtain ⟨hx, hb, hml, hown, hT, hr, hlk⟩ := id C
  rw [fX5_tell] at hf
  have j_25 : ∀ (y1 : Int32) (F : M1) (H : Heap) (locs : List Loc) (ls : Array Slot), fX5_tell_c25  y1 R1 R2 R3 K T SN SZ F = some (r, F') → Hp g A s H locs (wX g ad R1 R2 R3 K T SN SZ F) → lv_has ls 3 [(1, .int y1)] → W p l e rmX5_tell s m args below meth c H locs 0 0 (QI g A below args s r (wX g ad R1 R2 R3 K T SN SZ F')) (F0 m 25 ls []) := by
    intro y1 F H locs  ls hf hH hl
    rw [fX5_tell_c25] at hf
    refine lv_iload_n hx hb dX5_tell_25 rfl (lv_at hl 0 rfl) ?_
    have hf := Option.some.inj hf
    obtain ⟨h1, h2⟩ := Prod.mk.inj hf
    subst h1
    subst h2
    exact retI C hH rfl dX5_tell_26
  refine lv_ldc hx hb hown (hT _ tw_4_12) dX5_tell_0 ?_
  refine lv_iload_n hx hb dX5_tell_2 rfl (lv_at hl 1 rfl) ?_
  refine lv_isub hx hb dX5_tell_3 ?_
  refine lv_topi (fun v_8 ev_8 => ?_)
  have hf := letb_at hf v_8 ev_8
  refine lv_istore_n (lv' := [(2, .int v_8), (0, .ref (ad 0)), (1, .int x1)]) hx hb dX5_tell_4 rfl hl (by decide) rfl (fun ls hl => ?_)
  refine lv_iload_n hx hb dX5_tell_5 rfl (lv_at hl 0 rfl) ?_
  refine lv_iconst (v := 0) hx hb dX5_tell_6 (by decide) ?_
  refine lv_bipush (v := 6) hx hb dX5_tell_7 (by decide) ?_
  obtain ⟨r_9, hc_10, hf⟩ := bind_inv hf
  refine aftPI (runS C hE hA hH [] rfl rfl (kX5_within l g ad _ v_8 (0 : Int32) (6 : Int32) r_9  hc_10) tw_4_14 tw_4_15 tw_1_2 tw_4_16 hdX5_within rfl rfl ⟨Nat.le_of_ble_eq_true rfl, Nat.le_of_ble_eq_true rfl⟩ rfl hl.1 (rest := []) rfl (Nat.le_of_ble_eq_true rfl) dX5_tell_9 ⟨Nat.zero_le _, Nat.zero_le _⟩) ?_
  refine lv_if_eq (tgt := 25) hx hb dX5_tell_12 (by decide) (fun c_11 => ?_) (fun c_11 => ?_)
  · have hf := if_p hf c_11
    exact j_25 x1 F _ _ ls hf hH (lv_sub hl [2] rfl)
  · have hf := if_n hf c_11
    refine lv_aload_n hx hb dX5_tell_15 rfl (lv_at hl 1 rfl) ?_
    refine gf_RX5_40 C hE hH 0 rfl rfl dX5_tell_16 ?_
    refine lv_iload_n hx hb dX5_tell_19 rfl (lv_at hl 0 rfl) ?_
    refine lv_dup2_11 hx hb dX5_tell_20 rfl rfl ?_
    obtain ⟨hi_12, hf⟩ := grd_inv hf
    refine xiald C hE hH 33 rfl hi_12 dX5_tell_21 ?_
    refine lv_iconst (v := 1) hx hb dX5_tell_22 (by decide) ?_
    refine lv_iadd hx hb dX5_tell_23 ?_
    obtain ⟨hi_13, hf⟩ := grd_inv hf
    refine xiast C hE hH 33 rfl hi_13 (fun q : M1 => wX g ad R1 R2 R3 K T SN SZ q) (upd F v_8.toNatClampNeg ((F v_8.toNatClampNeg) + (1 : Int32))) rfl dX5_tell_24 (fun F_14 eF_14 H locs hH => ?_)
    have hf := letb_at hf F_14 eF_14
    exact j_25 x1 F_14 _ _ ls hf hH (lv_sub hl [2] rfl)
def fX5_startTrial (R1 : M2) (R2 : M2) (R3 : M2) (K : Int32) (T : M2) (SN : J2) (SZ : M2) (F : M1) : Option (M2) := (fX1_becomeLike R2 R1).bind (fun (R2_3 : M2) => some R2_3)
def rmX5_startTrial : Room := { frames := 2, cells := 0, slots := 0, locals := 47 }
theorem hdX5_startTrial : yX5_startTrial.cls = yX5_startTrial.cls ∧ yX5_startTrial.cls ≠ "java/lang/invoke/MethodHandle" ∧ yX5_startTrial.cls ≠ "java/lang/invoke/VarHandle" ∧ (parseMethodDescriptor yX5_startTrial.desc).map (fun d => d.parameters.length) = some 0 := by decide +kernel
set_option maxHeartbeats 4000000 in
set_option maxRecDepth 100000 in
theorem kX5_startTrial (l : Launch) (g : Gl) (ad : Nat → Nat) (sz : Nat) (R1 : M2) (R2 : M2) (R3 : M2) (K : Int32) (T : M2) (SN : J2) (SZ : M2) (F : M1)  (R2' : M2)  (hf : fX5_startTrial R1 R2 R3 K T SN SZ F = some R2') : MetV l yX5_startTrial (Cond.code yX5_startTrial cX5_startTrial 1 none :: wsL_law) rmX5_startTrial [.ref (ad 0)] g (wX g ad R1 R2 R3 K T SN SZ F) sz (wX g ad R1 R2' R3 K T SN SZ F) := by
  refine openV (by decide +kernel) (Nat.le_of_ble_eq_true rfl) ?_
  intro p e s m args below meth c A C hE hA hH ls hl
  have hl : lv_has ls 1 [(0, .ref (ad 0))] := hl
  have C : Cx p s m args meth c cX5_startTrial 1 none RX5 := C
  obtain ⟨hx, hb, hml, hown, hT, hr, hlk⟩ := id C
  rw [fX5_startTrial] at hf
  refine lv_aload_n hx hb dX5_startTrial_0 rfl (lv_at hl 0 rfl) ?_
  refine gf_RX5_16 C hE hH 0 rfl rfl dX5_startTrial_1 ?_
  refine lv_aload_n hx hb dX5_startTrial_4 rfl (lv_at hl 0 rfl) ?_
  refine gf_RX5_10 C hE hH 0 rfl rfl dX5_startTrial_5 ?_
  obtain ⟨R2_3, hc_4, hf⟩ := bind_inv hf
  refine aftV (runV C hE hA hH [8, 9, 10, 11, 12, 13, 14, 1, 2, 3, 4, 5, 6, 7] nC_X_LL_8_7 (sC_X_LL_8_7 g ad R1 R2 R3 K T SN SZ F) (kX1_becomeLike l g (fun k => ad (([8, 9, 10, 11, 12, 13, 14, 1, 2, 3, 4, 5, 6, 7] : List Nat).getD k 0)) _ R2 R1 R2_3  hc_4) tw_18_18 tw_18_19 tw_18_20 tw_1_15 tw_18_21 hdX1_becomeLike 8 rfl rfl rfl rfl ⟨Nat.le_of_ble_eq_true rfl, Nat.le_of_ble_eq_true rfl⟩ rfl hl.1 (rest := []) rfl (Nat.le_of_ble_eq_true rfl) dX5_startTrial_8 ⟨Nat.zero_le _, Nat.zero_le _⟩) hA hH [8, 9, 10, 11, 12, 13, 14, 1, 2, 3, 4, 5, 6, 7] [0, 15, 16, 17, 18, 19, 20, 21, 22, 23, 24, 25, 26, 27, 28, 29, 30, 31, 32, 33] (sC_X_LL_8_7 g ad R1 R2 R3 K T SN SZ F) (sR_X_LL_8_7 g ad R1 R2 R3 K T SN SZ F) nR_X_LL_8_7 dj_X_LL_8_7 [0, 27, 28, 29, 30, 31, 32, 33, 20, 21, 22, 23, 24, 25, 26, 1, 2, 3, 4, 5, 6, 7, 8, 9, 10, 11, 12, 13, 14, 15, 16, 17, 18, 19] nP_X_LL_8_7 (sP_X_LL_8_7 g ad R1 R2 R3 K T SN SZ F R2_3 R1) (fun H locs hH => ?_)
  have h1 := Option.some.inj hf
  subst h1
  exact retV C hH dX5_startTrial_11
def fX5_sea_c20  (R1 : M2) (R2 : M2) (R3 : M2) (K : Int32) (T : M2) (SN : J2) (SZ : M2) (F : M1) : Option (Int32 × M2 × M1) := bind2 (fX5_tell (-1000000001 : Int32) R1 R2 R3 K T SN SZ F) (fun (r_14 : Int32) (F_15 : M1) => some (r_14, R1, F_15))
def fX5_sea (x1 : Int32) (x2 : Int32) (R1 : M2) (R2 : M2) (R3 : M2) (K : Int32) (T : M2) (SN : J2) (SZ : M2) (F : M1) : Option (Int32 × M2 × M1) := (fX5_within x1 (0 : Int32) (27 : Int32)).bind (fun (r_17 : Int32) => (if r_17 = 0 then fX5_sea_c20  R1 R2 R3 K T SN SZ F else (fX5_within x2 (0 : Int32) (12 : Int32)).bind (fun (r_20 : Int32) => (if r_20 = 0 then fX5_sea_c20  R1 R2 R3 K T SN SZ F else grd (inb x1 28) (letb (R1 1 x1.toNatClampNeg) (fun v_24 : Int32 => grd (inb x1 28) (letb (st2 R1 1 (upd (R1 1) x1.toNatClampNeg x2)) (fun R1_26 : M2 => some (v_24, R1_26, F)))))))))
def rmX5_sea : Room := { frames := 2, cells := 0, slots := 0, locals := 44 }
theorem hdX5_sea : yX5_sea.cls = yX5_sea.cls ∧ yX5_sea.cls ≠ "java/lang/invoke/MethodHandle" ∧ yX5_sea.cls ≠ "java/lang/invoke/VarHandle" ∧ (parseMethodDescriptor yX5_sea.desc).map (fun d => d.parameters.length) = some 2 := by decide +kernel
set_option maxHeartbeats 4000000 in
set_option maxRecDepth 100000 in
theorem kX5_sea (l : Launch) (g : Gl) (ad : Nat → Nat) (sz : Nat) (R1 : M2) (R2 : M2) (R3 : M2) (K : Int32) (T : M2) (SN : J2) (SZ : M2) (F : M1) (x1 : Int32) (x2 : Int32) (r : Int32) (R1' : M2) (F' : M1)  (hf : fX5_sea x1 x2 R1 R2 R3 K T SN SZ F = some (r, R1', F')) : MetI l yX5_sea (Cond.code yX5_sea cX5_sea 4 (some .int) :: wsL_law) rmX5_sea [.ref (ad 0), .int x1, .int x2] g (wX g ad R1 R2 R3 K T SN SZ F) sz r (wX g ad R1' R2 R3 K T SN SZ F') := by
  refine openI (by decide +kernel) (Nat.le_of_ble_eq_true rfl) ?_
  intro p e s m args below meth c A C hE hA hH ls hl
  have hl : lv_has ls 4 [(0, .ref (ad 0)), (1, .int x1), (2, .int x2)] := hl
  have C : Cx p s m args meth c cX5_sea 4 (some .int) RX5 := C
  obtain ⟨hx, hb, hml, hown, hT, hr, hlk⟩ := id C
  rw [fX5_sea] at hf
  have j_20 : ∀ (R1 : M2) (F : M1) (H : Heap) (locs : List Loc) (ls : Array Slot), fX5_sea_c20  R1 R2 R3 K T SN SZ F = some (r, R1', F') → Hp g A s H locs (wX g ad R1 R2 R3 K T SN SZ F) → lv_has ls 4 [(0, .ref (ad 0))] → W p l e rmX5_sea s m args below meth c H locs 0 0 (QI g A below args s r (wX g ad R1' R2 R3 K T SN SZ F')) (F0 m 20 ls []) := by
    intro R1 F H locs  ls hf hH hl
    rw [fX5_sea_c20] at hf
    refine lv_aload_n hx hb dX5_sea_20 rfl (lv_at hl 0 rfl) ?_
    refine lv_ldc hx hb hown (hT _ tw_4_12) dX5_sea_21 ?_
    obtain ⟨r_14, F_15, hc_16, hf⟩ := bind2_inv hf
    refine aftI (runV C hE hA hH [0, 1, 2, 3, 4, 5, 6, 7, 8, 9, 10, 11, 12, 13, 14, 15, 16, 17, 18, 19, 20, 21, 22, 23, 24, 25, 26, 27, 28, 29, 30, 31, 32, 33] nC_X_X_0_33 (sC_X_X_0_33 g ad R1 R2 R3 K T SN SZ F) (kX5_tell l g ad _ R1 R2 R3 K T SN SZ F (-1000000001 : Int32) r_14 F_15  hc_16) tw_4_17 tw_4_18 tw_4_19 tw_1_2 tw_4_20 hdX5_tell 0 rfl rfl rfl rfl ⟨Nat.le_of_ble_eq_true rfl, Nat.le_of_ble_eq_true rfl⟩ rfl hl.1 (rest := []) rfl (Nat.le_of_ble_eq_true rfl) dX5_sea_23 ⟨Nat.zero_le _, Nat.zero_le _⟩) hA hH [0, 1, 2, 3, 4, 5, 6, 7, 8, 9, 10, 11, 12, 13, 14, 15, 16, 17, 18, 19, 20, 21, 22, 23, 24, 25, 26, 27, 28, 29, 30, 31, 32, 33] [] (sC_X_X_0_33 g ad R1 R2 R3 K T SN SZ F) (sR_X_X_0_33 g ad R1 R2 R3 K T SN SZ F) nR_X_X_0_33 dj_X_X_0_33 [0, 1, 2, 3, 4, 5, 6, 7, 8, 9, 10, 11, 12, 13, 14, 15, 16, 17, 18, 19, 20, 21, 22, 23, 24, 25, 26, 27, 28, 29, 30, 31, 32, 33] nP_X_X_0_33 (sP_X_X_0_33 g ad R1 R2 R3 K T SN SZ F R1 R2 R3 K T SN SZ F_15) (fun H locs hH => ?_)
    have hf := Option.some.inj hf
    obtain ⟨h1, hf⟩ := Prod.mk.inj hf
    obtain ⟨h2, h3⟩ := Prod.mk.inj hf
    subst h1
    subst h2
    subst h3
    exact retI C hH rfl dX5_sea_26
  refine lv_iload_n hx hb dX5_sea_0 rfl (lv_at hl 1 rfl) ?_
  refine lv_iconst (v := 0) hx hb dX5_sea_1 (by decide) ?_
  refine lv_bipush (v := 27) hx hb dX5_sea_2 (by decide) ?_
  obtain ⟨r_17, hc_18, hf⟩ := bind_inv hf
  refine aftPI (runS C hE hA hH [] rfl rfl (kX5_within l g ad _ x1 (0 : Int32) (27 : Int32) r_17  hc_18) tw_4_14 tw_4_15 tw_1_2 tw_4_16 hdX5_within rfl rfl ⟨Nat.le_of_ble_eq_true rfl, Nat.le_of_ble_eq_true rfl⟩ rfl hl.1 (rest := []) rfl (Nat.le_of_ble_eq_true rfl) dX5_sea_4 ⟨Nat.zero_le _, Nat.zero_le _⟩) ?_
  refine lv_if_eq (tgt := 20) hx hb dX5_sea_7 (by decide) (fun c_19 => ?_) (fun c_19 => ?_)
  · have hf := if_p hf c_19
    exact j_20 R1 F _ _ ls hf hH (lv_sub hl [0] rfl)
  · have hf := if_n hf c_19
    refine lv_iload_n hx hb dX5_sea_10 rfl (lv_at hl 2 rfl) ?_
    refine lv_iconst (v := 0) hx hb dX5_sea_11 (by decide) ?_
    refine lv_bipush (v := 12) hx hb dX5_sea_12 (by decide) ?_
    obtain ⟨r_20, hc_21, hf⟩ := bind_inv hf
    refine aftPI (runS C hE hA hH [] rfl rfl (kX5_within l g ad _ x2 (0 : Int32) (12 : Int32) r_20  hc_21) tw_4_14 tw_4_15 tw_1_2 tw_4_16 hdX5_within rfl rfl ⟨Nat.le_of_ble_eq_true rfl, Nat.le_of_ble_eq_true rfl⟩ rfl hl.1 (rest := []) rfl (Nat.le_of_ble_eq_true rfl) dX5_sea_14 ⟨Nat.zero_le _, Nat.zero_le _⟩) ?_
    refine lv_if_ne (tgt := 27) hx hb dX5_sea_17 (by decide) (fun c_22 => ?_) (fun c_22 => ?_)
    · have hf := if_n hf c_22
      refine lv_aload_n hx hb dX5_sea_27 rfl (lv_at hl 0 rfl) ?_
      refine gf_RX5_10 C hE hH 0 rfl rfl dX5_sea_28 ?_
      refine gf_RX5_53 C hE hH 1 rfl rfl dX5_sea_31 ?_
      refine lv_iload_n hx hb dX5_sea_34 rfl (lv_at hl 1 rfl) ?_
      obtain ⟨hi_23, hf⟩ := grd_inv hf
      refine xiald C hE hH 2 rfl hi_23 dX5_sea_35 ?_
      refine lv_topi (fun v_24 ev_24 => ?_)
      have hf := letb_at hf v_24 ev_24
      refine lv_istore_n (lv' := [(3, .int v_24), (0, .ref (ad 0)), (1, .int x1), (2, .int x2)]) hx hb dX5_sea_36 rfl hl (by decide) rfl (fun ls hl => ?_)
      refine lv_aload_n hx hb dX5_sea_37 rfl (lv_at hl 1 rfl) ?_
      refine gf_RX5_10 C hE hH 0 rfl rfl dX5_sea_38 ?_
      refine gf_RX5_53 C hE hH 1 rfl rfl dX5_sea_41 ?_
      refine lv_iload_n hx hb dX5_sea_44 rfl (lv_at hl 2 rfl) ?_
      refine lv_iload_n hx hb dX5_sea_45 rfl (lv_at hl 3 rfl) ?_
      obtain ⟨hi_25, hf⟩ := grd_inv hf
      refine xiast C hE hH 2 rfl hi_25 (fun q : M2 => wX g ad q R2 R3 K T SN SZ F) (st2 R1 1 (upd (R1 1) x1.toNatClampNeg x2)) rfl dX5_sea_46 (fun R1_26 eR1_26 H locs hH => ?_)
      have hf := letb_at hf R1_26 eR1_26
      refine lv_iload_n hx hb dX5_sea_47 rfl (lv_at hl 0 rfl) ?_
      have hf := Option.some.inj hf
      obtain ⟨h1, hf⟩ := Prod.mk.inj hf
      obtain ⟨h2, h3⟩ := Prod.mk.inj hf
      subst h1
      subst h2
      subst h3
      exact retI C hH rfl dX5_sea_48
    · have hf := if_p hf c_22
      exact j_20 R1 F _ _ ls hf hH (lv_sub hl [0] rfl)
def fX5_day_c69  (z0 : Int32) (R1 : M2) (R2 : M2) (R3 : M2) (K : Int32) (T : M2) (SN : J2) (SZ : M2) (F : M1) : Option (Int32 × M1) := some (z0, F)
def fX5_day (x1 : Int32) (x2 : Int32) (R1 : M2) (R2 : M2) (R3 : M2) (K : Int32) (T : M2) (SN : J2) (SZ : M2) (F : M1) : Option (Int32 × M1) := (fX5_within x1 (0 : Int32) (9999 : Int32)).bind (fun (r_20 : Int32) => (if r_20 = 0 then bind2 (fX5_tell (-1000000001 : Int32) R1 R2 R3 K T SN SZ F) (fun (r_36 : Int32) (F_37 : M1) => some (r_36, F_37)) else (if x2 = 0 then (fX1_seaOn x1 R1).bind (fun (r_24 : Int32) => some (r_24, F)) else (if x2 = 1 then (fX1_hasGaleOn x1 R1).bind (fun (r_27 : Int32) => (if r_27 = 0 then fX5_day_c69  (0 : Int32) R1 R2 R3 K T SN SZ F else fX5_day_c69  (1 : Int32) R1 R2 R3 K T SN SZ F)) else (if x2 = 2 then (fX1_secondsOn x1 R1).bind (fun (r_31 : Int32) => some (r_31, F)) else bind2 (fX5_tell (-1000000001 : Int32) R1 R2 R3 K T SN SZ F) (fun (r_33 : Int32) (F_34 : M1) => some (r_33, F_34)))))))
def rmX5_day : Room := { frames := 3, cells := 0, slots := 0, locals := 65 }
theorem hdX5_day : yX5_day.cls = yX5_day.cls ∧ yX5_day.cls ≠ "java/lang/invoke/MethodHandle" ∧ yX5_day.cls ≠ "java/lang/invoke/VarHandle" ∧ (parseMethodDescriptor yX5_day.desc).map (fun d => d.parameters.length) = some 2 := by decide +kernel
set_option maxHeartbeats 4000000 in
set_option maxRecDepth 100000 in
theorem kX5_day (l : Launch) (g : Gl) (ad : Nat → Nat) (sz : Nat) (R1 : M2) (R2 : M2) (R3 : M2) (K : Int32) (T : M2) (SN : J2) (SZ : M2) (F : M1) (x1 : Int32) (x2 : Int32) (r : Int32) (F' : M1)  (hf : fX5_day x1 x2 R1 R2 R3 K T SN SZ F = some (r, F')) : MetI l yX5_day (Cond.code yX5_day cX5_day 3 (some .int) :: wsL_law) rmX5_day [.ref (ad 0), .int x1, .int x2] g (wX g ad R1 R2 R3 K T SN SZ F) sz r (wX g ad R1 R2 R3 K T SN SZ F') := by
  refine openI (by decide +kernel) (Nat.le_of_ble_eq_true rfl) ?_
  intro p e s m args below meth c A C hE hA hH ls hl
  have hl : lv_has ls 3 [(0, .ref (ad 0)), (1, .int x1), (2, .int x2)] := hl
  have C : Cx p s m args meth c cX5_day 3 (some .int) RX5 := C
  obtain ⟨hx, hb, hml, hown, hT, hr, hlk⟩ := id C
  rw [fX5_day] at hf
  have j_69 : ∀ (z0 : Int32) (F : M1) (H : Heap) (locs : List Loc) (ls : Array Slot), fX5_day_c69  z0 R1 R2 R3 K T SN SZ F = some (r, F') → Hp g A s H locs (wX g ad R1 R2 R3 K T SN SZ F) → lv_has ls 3 [] → W p l e rmX5_day s m args below meth c H locs 0 0 (QI g A below args s r (wX g ad R1 R2 R3 K T SN SZ F')) (F0 m 69 ls [.int z0]) := by
    intro z0 F H locs  ls hf hH hl
    rw [fX5_day_c69] at hf
    have hf := Option.some.inj hf
    obtain ⟨h1, h2⟩ := Prod.mk.inj hf
    subst h1
    subst h2
    exact retI C hH rfl dX5_day_69
  refine lv_iload_n hx hb dX5_day_0 rfl (lv_at hl 1 rfl) ?_
  refine lv_iconst (v := 0) hx hb dX5_day_1 (by decide) ?_
  refine lv_sipush (v := 9999) hx hb dX5_day_2 (by decide) ?_
  obtain ⟨r_20, hc_21, hf⟩ := bind_inv hf
  refine aftPI (runS C hE hA hH [] rfl rfl (kX5_within l g ad _ x1 (0 : Int32) (9999 : Int32) r_20  hc_21) tw_4_14 tw_4_15 tw_1_2 tw_4_16 hdX5_within rfl rfl ⟨Nat.le_of_ble_eq_true rfl, Nat.le_of_ble_eq_true rfl⟩ rfl hl.1 (rest := []) rfl (Nat.le_of_ble_eq_true rfl) dX5_day_5 ⟨Nat.zero_le _, Nat.zero_le _⟩) ?_
  refine lv_if_ne (tgt := 18) hx hb dX5_day_8 (by decide) (fun c_22 => ?_) (fun c_22 => ?_)
  · have hf := if_n hf c_22
    refine lv_iload_n hx hb dX5_day_18 rfl (lv_at hl 2 rfl) ?_
    by_cases c_23 : x2 = 0
    · have hf := if_p hf c_23
      refine lv_tableIn (tgt := 44) hx hb dX5_day_19 (by rw [c_23]; decide) (by rw [c_23]; decide) (by rw [c_23]; rfl) (by decide) ?_
      refine lv_aload_n hx hb dX5_day_44 rfl (lv_at hl 0 rfl) ?_
      refine gf_RX5_10 C hE hH 0 rfl rfl dX5_day_45 ?_
      refine lv_iload_n hx hb dX5_day_48 rfl (lv_at hl 1 rfl) ?_
      obtain ⟨r_24, hc_25, hf⟩ := bind_inv hf
      refine aftPI (runV C hE hA hH [1, 2, 3, 4, 5, 6, 7] nC_X_L_1_7 (sC_X_L_1_7 g ad R1 R2 R3 K T SN SZ F) (kX1_seaOn l g (fun k => ad (1 + k)) _ R1 x1 r_24  hc_25) tw_5_17 tw_5_18 tw_5_19 tw_1_15 tw_5_20 hdX1_seaOn 1 rfl rfl rfl rfl ⟨Nat.le_of_ble_eq_true rfl, Nat.le_of_ble_eq_true rfl⟩ rfl hl.1 (rest := []) rfl (Nat.le_of_ble_eq_true rfl) dX5_day_49 ⟨Nat.zero_le _, Nat.zero_le _⟩) ?_
      have hf := Option.some.inj hf
      obtain ⟨h1, h2⟩ := Prod.mk.inj hf
      subst h1
      subst h2
      exact retI C hH rfl dX5_day_52
    have hf := if_n hf c_23
    by_cases c_26 : x2 = 1
    · have hf := if_p hf c_26
      refine lv_tableIn (tgt := 53) hx hb dX5_day_19 (by rw [c_26]; decide) (by rw [c_26]; decide) (by rw [c_26]; rfl) (by decide) ?_
      refine lv_aload_n hx hb dX5_day_53 rfl (lv_at hl 0 rfl) ?_
      refine gf_RX5_10 C hE hH 0 rfl rfl dX5_day_54 ?_
      refine lv_iload_n hx hb dX5_day_57 rfl (lv_at hl 1 rfl) ?_
      obtain ⟨r_27, hc_28, hf⟩ := bind_inv hf
      refine aftPI (runV C hE hA hH [1, 2, 3, 4, 5, 6, 7] nC_X_L_1_7 (sC_X_L_1_7 g ad R1 R2 R3 K T SN SZ F) (kX1_hasGaleOn l g (fun k => ad (1 + k)) _ R1 x1 r_27  hc_28) tw_6_1 tw_6_2 tw_6_3 tw_1_15 tw_6_4 hdX1_hasGaleOn 1 rfl rfl rfl rfl ⟨Nat.le_of_ble_eq_true rfl, Nat.le_of_ble_eq_true rfl⟩ rfl hl.1 (rest := []) rfl (Nat.le_of_ble_eq_true rfl) dX5_day_58 ⟨Nat.zero_le _, Nat.zero_le _⟩) ?_
      refine lv_if_eq (tgt := 68) hx hb dX5_day_61 (by decide) (fun c_29 => ?_) (fun c_29 => ?_)
      · have hf := if_p hf c_29
        refine lv_iconst (v := 0) hx hb dX5_day_68 (by decide) ?_
        exact j_69 (0 : Int32) F _ _ ls hf hH (lv_sub hl [] rfl)
      · have hf := if_n hf c_29
        refine lv_iconst (v := 1) hx hb dX5_day_64 (by decide) ?_
        refine lv_goto (tgt := 69) hx hb dX5_day_65 (by decide) ?_
        exact j_69 (1 : Int32) F _ _ ls hf hH (lv_sub hl [] rfl)
    have hf := if_n hf c_26
    by_cases c_30 : x2 = 2
    · have hf := if_p hf c_30
      refine lv_tableIn (tgt := 70) hx hb dX5_day_19 (by rw [c_30]; decide) (by rw [c_30]; decide) (by rw [c_30]; rfl) (by decide) ?_
      refine lv_aload_n hx hb dX5_day_70 rfl (lv_at hl 0 rfl) ?_
      refine gf_RX5_10 C hE hH 0 rfl rfl dX5_day_71 ?_
      refine lv_iload_n hx hb dX5_day_74 rfl (lv_at hl 1 rfl) ?_
      obtain ⟨r_31, hc_32, hf⟩ := bind_inv hf
      refine aftPI (runV C hE hA hH [1, 2, 3, 4, 5, 6, 7] nC_X_L_1_7 (sC_X_L_1_7 g ad R1 R2 R3 K T SN SZ F) (kX1_secondsOn l g (fun k => ad (1 + k)) _ R1 x1 r_31  hc_32) tw_6_6 tw_6_7 tw_6_8 tw_1_15 tw_6_9 hdX1_secondsOn 1 rfl rfl rfl rfl ⟨Nat.le_of_ble_eq_true rfl, Nat.le_of_ble_eq_true rfl⟩ rfl hl.1 (rest := []) rfl (Nat.le_of_ble_eq_true rfl) dX5_day_75 ⟨Nat.zero_le _, Nat.zero_le _⟩) ?_
      have hf := Option.some.inj hf
      obtain ⟨h1, h2⟩ := Prod.mk.inj hf
      subst h1
      subst h2
      exact retI C hH rfl dX5_day_78
    have hf := if_n hf c_30
    refine lv_tableOut (tgt := 79) hx hb dX5_day_19 (by have qc_23 := lv_neT c_23 (a := 0) (by decide); have qc_26 := lv_neT c_26 (a := 1) (by decide); have qc_30 := lv_neT c_30 (a := 2) (by decide); omega) (by decide) ?_
    refine lv_aload_n hx hb dX5_day_79 rfl (lv_at hl 0 rfl) ?_
    refine lv_ldc hx hb hown (hT _ tw_4_12) dX5_day_80 ?_
    obtain ⟨r_33, F_34, hc_35, hf⟩ := bind2_inv hf
    refine aftI (runV C hE hA hH [0, 1, 2, 3, 4, 5, 6, 7, 8, 9, 10, 11, 12, 13, 14, 15, 16, 17, 18, 19, 20, 21, 22, 23, 24, 25, 26, 27, 28, 29, 30, 31, 32, 33] nC_X_X_0_33 (sC_X_X_0_33 g ad R1 R2 R3 K T SN SZ F) (kX5_tell l g ad _ R1 R2 R3 K T SN SZ F (-1000000001 : Int32) r_33 F_34  hc_35) tw_4_17 tw_4_18 tw_4_19 tw_1_2 tw_4_20 hdX5_tell 0 rfl rfl rfl rfl ⟨Nat.le_of_ble_eq_true rfl, Nat.le_of_ble_eq_true rfl⟩ rfl hl.1 (rest := []) rfl (Nat.le_of_ble_eq_true rfl) dX5_day_82 ⟨Nat.zero_le _, Nat.zero_le _⟩) hA hH [0, 1, 2, 3, 4, 5, 6, 7, 8, 9, 10, 11, 12, 13, 14, 15, 16, 17, 18, 19, 20, 21, 22, 23, 24, 25, 26, 27, 28, 29, 30, 31, 32, 33] [] (sC_X_X_0_33 g ad R1 R2 R3 K T SN SZ F) (sR_X_X_0_33 g ad R1 R2 R3 K T SN SZ F) nR_X_X_0_33 dj_X_X_0_33 [0, 1, 2, 3, 4, 5, 6, 7, 8, 9, 10, 11, 12, 13, 14, 15, 16, 17, 18, 19, 20, 21, 22, 23, 24, 25, 26, 27, 28, 29, 30, 31, 32, 33] nP_X_X_0_33 (sP_X_X_0_33 g ad R1 R2 R3 K T SN SZ F R1 R2 R3 K T SN SZ F_34) (fun H locs hH => ?_)
    have hf := Option.some.inj hf
    obtain ⟨h1, h2⟩ := Prod.mk.inj hf
    subst h1
    subst h2
    exact retI C hH rfl dX5_day_85
  · have hf := if_p hf c_22
    refine lv_aload_n hx hb dX5_day_11 rfl (lv_at hl 0 rfl) ?_
    refine lv_ldc hx hb hown (hT _ tw_4_12) dX5_day_12 ?_
    obtain ⟨r_36, F_37, hc_38, hf⟩ := bind2_inv hf
    refine aftI (runV C hE hA hH [0, 1, 2, 3, 4, 5, 6, 7, 8, 9, 10, 11, 12, 13, 14, 15, 16, 17, 18, 19, 20, 21, 22, 23, 24, 25, 26, 27, 28, 29, 30, 31, 32, 33] nC_X_X_0_33 (sC_X_X_0_33 g ad R1 R2 R3 K T SN SZ F) (kX5_tell l g ad _ R1 R2 R3 K T SN SZ F (-1000000001 : Int32) r_36 F_37  hc_38) tw_4_17 tw_4_18 tw_4_19 tw_1_2 tw_4_20 hdX5_tell 0 rfl rfl rfl rfl ⟨Nat.le_of_ble_eq_true rfl, Nat.le_of_ble_eq_true rfl⟩ rfl hl.1 (rest := []) rfl (Nat.le_of_ble_eq_true rfl) dX5_day_14 ⟨Nat.zero_le _, Nat.zero_le _⟩) hA hH [0, 1, 2, 3, 4, 5, 6, 7, 8, 9, 10, 11, 12, 13, 14, 15, 16, 17, 18, 19, 20, 21, 22, 23, 24, 25, 26, 27, 28, 29, 30, 31, 32, 33] [] (sC_X_X_0_33 g ad R1 R2 R3 K T SN SZ F) (sR_X_X_0_33 g ad R1 R2 R3 K T SN SZ F) nR_X_X_0_33 dj_X_X_0_33 [0, 1, 2, 3, 4, 5, 6, 7, 8, 9, 10, 11, 12, 13, 14, 15, 16, 17, 18, 19, 20, 21, 22, 23, 24, 25, 26, 27, 28, 29, 30, 31, 32, 33] nP_X_X_0_33 (sP_X_X_0_33 g ad R1 R2 R3 K T SN SZ F R1 R2 R3 K T SN SZ F_37) (fun H locs hH => ?_)
    have hf := Option.some.inj hf
    obtain ⟨h1, h2⟩ := Prod.mk.inj hf
    subst h1
    subst h2
    exact retI C hH rfl dX5_day_17
def fX5_light_c26  (R1 : M2) (R2 : M2) (R3 : M2) (K : Int32) (T : M2) (SN : J2) (SZ : M2) (F : M1) : Option (Int32 × M2 × M1) := bind2 (fX5_tell (-1000000001 : Int32) R1 R2 R3 K T SN SZ F) (fun (r_16 : Int32) (F_17 : M1) => some (r_16, R1, F_17))
def fX5_light (x1 : Int32) (x2 : Int32) (R1 : M2) (R2 : M2) (R3 : M2) (K : Int32) (T : M2) (SN : J2) (SZ : M2) (F : M1) : Option (Int32 × M2 × M1) := (fX5_within x1 (0 : Int32) (3 : Int32)).bind (fun (r_19 : Int32) => (if r_19 = 0 then fX5_light_c26  R1 R2 R3 K T SN SZ F else grd (inb x1 4) (grd (inb x1 4) ((fX5_within x2 (tabL x1.toNatClampNeg) (tabM x1.toNatClampNeg)).bind (fun (r_24 : Int32) => (if r_24 = 0 then fX5_light_c26  R1 R2 R3 K T SN SZ F else (fX1_measure x1 R1).bind (fun (r_27 : Int32) => (fX1_putMeasure x1 x2 R1).bind (fun (R1_29 : M2) => some (r_27, R1_29, F)))))))))
def rmX5_light : Room := { frames := 2, cells := 0, slots := 0, locals := 44 }
theorem hdX5_light : yX5_light.cls = yX5_light.cls ∧ yX5_light.cls ≠ "java/lang/invoke/MethodHandle" ∧ yX5_light.cls ≠ "java/lang/invoke/VarHandle" ∧ (parseMethodDescriptor yX5_light.desc).map (fun d => d.parameters.length) = some 2 := by decide +kernel
set_option maxHeartbeats 4000000 in
set_option maxRecDepth 100000 in
theorem kX5_light (l : Launch) (g : Gl) (ad : Nat → Nat) (sz : Nat) (R1 : M2) (R2 : M2) (R3 : M2) (K : Int32) (T : M2) (SN : J2) (SZ : M2) (F : M1) (x1 : Int32) (x2 : Int32) (r : Int32) (R1' : M2) (F' : M1)  (hf : fX5_light x1 x2 R1 R2 R3 K T SN SZ F = some (r, R1', F')) : MetI l yX5_light (Cond.code yX5_light cX5_light 4 (some .int) :: wsL_law) rmX5_light [.ref (ad 0), .int x1, .int x2] g (wX g ad R1 R2 R3 K T SN SZ F) sz r (wX g ad R1' R2 R3 K T SN SZ F') := by
  refine openI (by decide +kernel) (Nat.le_of_ble_eq_true rfl) ?_
  intro p e s m args below meth c A C hE hA hH ls hl
  have hl : lv_has ls 4 [(0, .ref (ad 0)), (1, .int x1), (2, .int x2)] := hl
  have C : Cx p s m args meth c cX5_light 4 (some .int) RX5 := C
  obtain ⟨hx, hb, hml, hown, hT, hr, hlk⟩ := id C
  rw [fX5_light] at hf
  have j_26 : ∀ (R1 : M2) (F : M1) (H : Heap) (locs : List Loc) (ls : Array Slot), fX5_light_c26  R1 R2 R3 K T SN SZ F = some (r, R1', F') → Hp g A s H locs (wX g ad R1 R2 R3 K T SN SZ F) → lv_has ls 4 [(0, .ref (ad 0))] → W p l e rmX5_light s m args below meth c H locs 0 0 (QI g A below args s r (wX g ad R1' R2 R3 K T SN SZ F')) (F0 m 26 ls []) := by
    intro R1 F H locs  ls hf hH hl
    rw [fX5_light_c26] at hf
    refine lv_aload_n hx hb dX5_light_26 rfl (lv_at hl 0 rfl) ?_
    refine lv_ldc hx hb hown (hT _ tw_4_12) dX5_light_27 ?_
    obtain ⟨r_16, F_17, hc_18, hf⟩ := bind2_inv hf
    refine aftI (runV C hE hA hH [0, 1, 2, 3, 4, 5, 6, 7, 8, 9, 10, 11, 12, 13, 14, 15, 16, 17, 18, 19, 20, 21, 22, 23, 24, 25, 26, 27, 28, 29, 30, 31, 32, 33] nC_X_X_0_33 (sC_X_X_0_33 g ad R1 R2 R3 K T SN SZ F) (kX5_tell l g ad _ R1 R2 R3 K T SN SZ F (-1000000001 : Int32) r_16 F_17  hc_18) tw_4_17 tw_4_18 tw_4_19 tw_1_2 tw_4_20 hdX5_tell 0 rfl rfl rfl rfl ⟨Nat.le_of_ble_eq_true rfl, Nat.le_of_ble_eq_true rfl⟩ rfl hl.1 (rest := []) rfl (Nat.le_of_ble_eq_true rfl) dX5_light_29 ⟨Nat.zero_le _, Nat.zero_le _⟩) hA hH [0, 1, 2, 3, 4, 5, 6, 7, 8, 9, 10, 11, 12, 13, 14, 15, 16, 17, 18, 19, 20, 21, 22, 23, 24, 25, 26, 27, 28, 29, 30, 31, 32, 33] [] (sC_X_X_0_33 g ad R1 R2 R3 K T SN SZ F) (sR_X_X_0_33 g ad R1 R2 R3 K T SN SZ F) nR_X_X_0_33 dj_X_X_0_33 [0, 1, 2, 3, 4, 5, 6, 7, 8, 9, 10, 11, 12, 13, 14, 15, 16, 17, 18, 19, 20, 21, 22, 23, 24, 25, 26, 27, 28, 29, 30, 31, 32, 33] nP_X_X_0_33 (sP_X_X_0_33 g ad R1 R2 R3 K T SN SZ F R1 R2 R3 K T SN SZ F_17) (fun H locs hH => ?_)
    have hf := Option.some.inj hf
    obtain ⟨h1, hf⟩ := Prod.mk.inj hf
    obtain ⟨h2, h3⟩ := Prod.mk.inj hf
    subst h1
    subst h2
    subst h3
    exact retI C hH rfl dX5_light_32
  refine lv_iload_n hx hb dX5_light_0 rfl (lv_at hl 1 rfl) ?_
  refine lv_iconst (v := 0) hx hb dX5_light_1 (by decide) ?_
  refine lv_iconst (v := 3) hx hb dX5_light_2 (by decide) ?_
  obtain ⟨r_19, hc_20, hf⟩ := bind_inv hf
  refine aftPI (runS C hE hA hH [] rfl rfl (kX5_within l g ad _ x1 (0 : Int32) (3 : Int32) r_19  hc_20) tw_4_14 tw_4_15 tw_1_2 tw_4_16 hdX5_within rfl rfl ⟨Nat.le_of_ble_eq_true rfl, Nat.le_of_ble_eq_true rfl⟩ rfl hl.1 (rest := []) rfl (Nat.le_of_ble_eq_true rfl) dX5_light_3 ⟨Nat.zero_le _, Nat.zero_le _⟩) ?_
  refine lv_if_eq (tgt := 26) hx hb dX5_light_6 (by decide) (fun c_21 => ?_) (fun c_21 => ?_)
  · have hf := if_p hf c_21
    exact j_26 R1 F _ _ ls hf hH (lv_sub hl [0] rfl)
  · have hf := if_n hf c_21
    refine lv_iload_n hx hb dX5_light_9 rfl (lv_at hl 2 rfl) ?_
    refine va_gets hx hb hE.2.1.2.1.1 hH.2.2 hown (hT _ tw_6_22) (fun _ h9 => h9) dX5_light_10 ?_
    refine lv_iload_n hx hb dX5_light_13 rfl (lv_at hl 1 rfl) ?_
    obtain ⟨hi_22, hf⟩ := grd_inv hf
    refine va_ti hx hb hE.2.1.2.1.2 hH.2.2 (inb_in hi_22) rfl dX5_light_14 ?_
    refine va_gets hx hb hE.2.1.2.2.1.1 hH.2.2 hown (hT _ tw_6_23) (fun _ h9 => h9) dX5_light_15 ?_
    refine lv_iload_n hx hb dX5_light_18 rfl (lv_at hl 1 rfl) ?_
    obtain ⟨hi_23, hf⟩ := grd_inv hf
    refine va_ti hx hb hE.2.1.2.2.1.2 hH.2.2 (inb_in hi_23) rfl dX5_light_19 ?_
    obtain ⟨r_24, hc_25, hf⟩ := bind_inv hf
    refine aftPI (runS C hE hA hH [] rfl rfl (kX5_within l g ad _ x2 (tabL x1.toNatClampNeg) (tabM x1.toNatClampNeg) r_24  hc_25) tw_4_14 tw_4_15 tw_1_2 tw_4_16 hdX5_within rfl rfl ⟨Nat.le_of_ble_eq_true rfl, Nat.le_of_ble_eq_true rfl⟩ rfl hl.1 (rest := []) rfl (Nat.le_of_ble_eq_true rfl) dX5_light_20 ⟨Nat.zero_le _, Nat.zero_le _⟩) ?_
    refine lv_if_ne (tgt := 33) hx hb dX5_light_23 (by decide) (fun c_26 => ?_) (fun c_26 => ?_)
    · have hf := if_n hf c_26
      refine lv_aload_n hx hb dX5_light_33 rfl (lv_at hl 0 rfl) ?_
      refine gf_RX5_10 C hE hH 0 rfl rfl dX5_light_34 ?_
      refine lv_iload_n hx hb dX5_light_37 rfl (lv_at hl 1 rfl) ?_
      obtain ⟨r_27, hc_28, hf⟩ := bind_inv hf
      refine aftPI (runV C hE hA hH [1, 2, 3, 4, 5, 6, 7] nC_X_L_1_7 (sC_X_L_1_7 g ad R1 R2 R3 K T SN SZ F) (kX1_measure l g (fun k => ad (1 + k)) _ R1 x1 r_27  hc_28) tw_7_0 tw_7_1 tw_7_2 tw_1_15 tw_7_3 hdX1_measure 1 rfl rfl rfl rfl ⟨Nat.le_of_ble_eq_true rfl, Nat.le_of_ble_eq_true rfl⟩ rfl hl.1 (rest := []) rfl (Nat.le_of_ble_eq_true rfl) dX5_light_38 ⟨Nat.zero_le _, Nat.zero_le _⟩) ?_
      refine lv_istore_n (lv' := [(3, .int r_27), (0, .ref (ad 0)), (1, .int x1), (2, .int x2)]) hx hb dX5_light_41 rfl hl (by decide) rfl (fun ls hl => ?_)
      refine lv_aload_n hx hb dX5_light_42 rfl (lv_at hl 1 rfl) ?_
      refine gf_RX5_10 C hE hH 0 rfl rfl dX5_light_43 ?_
      refine lv_iload_n hx hb dX5_light_46 rfl (lv_at hl 2 rfl) ?_
      refine lv_iload_n hx hb dX5_light_47 rfl (lv_at hl 3 rfl) ?_
      obtain ⟨R1_29, hc_30, hf⟩ := bind_inv hf
      refine aftV (runV C hE hA hH [1, 2, 3, 4, 5, 6, 7] nC_X_L_1_7 (sC_X_L_1_7 g ad R1 R2 R3 K T SN SZ F) (kX1_putMeasure l g (fun k => ad (1 + k)) _ R1 x1 x2 R1_29  hc_30) tw_7_4 tw_7_5 tw_7_6 tw_1_15 tw_7_7 hdX1_putMeasure 1 rfl rfl rfl rfl ⟨Nat.le_of_ble_eq_true rfl, Nat.le_of_ble_eq_true rfl⟩ rfl hl.1 (rest := []) rfl (Nat.le_of_ble_eq_true rfl) dX5_light_48 ⟨Nat.zero_le _, Nat.zero_le _⟩) hA hH [1, 2, 3, 4, 5, 6, 7] [0, 8, 9, 10, 11, 12, 13, 14, 15, 16, 17, 18, 19, 20, 21, 22, 23, 24, 25, 26, 27, 28, 29, 30, 31, 32, 33] (sC_X_L_1_7 g ad R1 R2 R3 K T SN SZ F) (sR_X_L_1_7 g ad R1 R2 R3 K T SN SZ F) nR_X_L_1_7 dj_X_L_1_7 [0, 27, 28, 29, 30, 31, 32, 33, 1, 2, 3, 4, 5, 6, 7, 8, 9, 10, 11, 12, 13, 14, 15, 16, 17, 18, 19, 20, 21, 22, 23, 24, 25, 26] nP_X_L_1_7 (sP_X_L_1_7 g ad R1 R2 R3 K T SN SZ F R1_29) (fun H locs hH => ?_)
      refine lv_iload_n hx hb dX5_light_51 rfl (lv_at hl 0 rfl) ?_
      have hf := Option.some.inj hf
      obtain ⟨h1, hf⟩ := Prod.mk.inj hf
      obtain ⟨h2, h3⟩ := Prod.mk.inj hf
      subst h1
      subst h2
      subst h3
      exact retI C hH rfl dX5_light_52
    · have hf := if_p hf c_26
      exact j_26 R1 F _ _ ls hf hH (lv_sub hl [0] rfl)
def fX5_keeper (x1 : Int32) (R1 : M2) (R2 : M2) (R3 : M2) (K : Int32) (T : M2) (SN : J2) (SZ : M2) (F : M1) : Option (Int32 × M2 × M1) := (fX5_isKind x1).bind (fun (r_16 : Int32) => (if r_16 = 0 then bind2 (fX5_tell (-1000000001 : Int32) R1 R2 R3 K T SN SZ F) (fun (r_28 : Int32) (F_29 : M1) => some (r_28, R1, F_29)) else (fX1_isFull R1).bind (fun (r_19 : Int32) => (if r_19 = 0 then bind2 (fX1_addKeeper x1 R1) (fun (r_22 : Int32) (R1_23 : M2) => some (r_22, R1_23, F)) else bind2 (fX5_tell (-1000000002 : Int32) R1 R2 R3 K T SN SZ F) (fun (r_25 : Int32) (F_26 : M1) => some (r_25, R1, F_26))))))
def rmX5_keeper : Room := { frames := 2, cells := 0, slots := 0, locals := 44 }
theorem hdX5_keeper : yX5_keeper.cls = yX5_keeper.cls ∧ yX5_keeper.cls ≠ "java/lang/invoke/MethodHandle" ∧ yX5_keeper.cls ≠ "java/lang/invoke/VarHandle" ∧ (parseMethodDescriptor yX5_keeper.desc).map (fun d => d.parameters.length) = some 1 := by decide +kernel
set_option maxHeartbeats 4000000 in
set_option maxRecDepth 100000 in
theorem kX5_keeper (l : Launch) (g : Gl) (ad : Nat → Nat) (sz : Nat) (R1 : M2) (R2 : M2) (R3 : M2) (K : Int32) (T : M2) (SN : J2) (SZ : M2) (F : M1) (x1 : Int32) (r : Int32) (R1' : M2) (F' : M1)  (hf : fX5_keeper x1 R1 R2 R3 K T SN SZ F = some (r, R1', F')) : MetI l yX5_keeper (Cond.code yX5_keeper cX5_keeper 2 (some .int) :: wsL_law) rmX5_keeper [.ref (ad 0), .int x1] g (wX g ad R1 R2 R3 K T SN SZ F) sz r (wX g ad R1' R2 R3 K T SN SZ F') := by
  refine openI (by decide +kernel) (Nat.le_of_ble_eq_true rfl) ?_
  intro p e s m args below meth c A C hE hA hH ls hl
  have hl : lv_has ls 2 [(0, .ref (ad 0)), (1, .int x1)] := hl
  have C : Cx p s m args meth c cX5_keeper 2 (some .int) RX5 := C
  obtain ⟨hx, hb, hml, hown, hT, hr, hlk⟩ := id C
  rw [fX5_keeper] at hf
  refine lv_iload_n hx hb dX5_keeper_0 rfl (lv_at hl 1 rfl) ?_
  obtain ⟨r_16, hc_17, hf⟩ := bind_inv hf
  refine aftPI (runS C hE hA hH [] rfl rfl (kX5_isKind l g ad _ x1 r_16  hc_17) tw_7_17 tw_7_18 tw_1_2 tw_7_19 hdX5_isKind rfl rfl ⟨Nat.le_of_ble_eq_true rfl, Nat.le_of_ble_eq_true rfl⟩ rfl hl.1 (rest := []) rfl (Nat.le_of_ble_eq_true rfl) dX5_keeper_1 ⟨Nat.zero_le _, Nat.zero_le _⟩) ?_
  refine lv_if_ne (tgt := 14) hx hb dX5_keeper_4 (by decide) (fun c_18 => ?_) (fun c_18 => ?_)
  · have hf := if_n hf c_18
    refine lv_aload_n hx hb dX5_keeper_14 rfl (lv_at hl 0 rfl) ?_
    refine gf_RX5_10 C hE hH 0 rfl rfl dX5_keeper_15 ?_
    obtain ⟨r_19, hc_20, hf⟩ := bind_inv hf
    refine aftPI (runV C hE hA hH [1, 2, 3, 4, 5, 6, 7] nC_X_L_1_7 (sC_X_L_1_7 g ad R1 R2 R3 K T SN SZ F) (kX1_isFull l g (fun k => ad (1 + k)) _ R1 r_19  hc_20) tw_7_20 tw_7_21 tw_7_22 tw_1_15 tw_7_23 hdX1_isFull 1 rfl rfl rfl rfl ⟨Nat.le_of_ble_eq_true rfl, Nat.le_of_ble_eq_true rfl⟩ rfl hl.1 (rest := []) rfl (Nat.le_of_ble_eq_true rfl) dX5_keeper_18 ⟨Nat.zero_le _, Nat.zero_le _⟩) ?_
    refine lv_if_eq (tgt := 31) hx hb dX5_keeper_21 (by decide) (fun c_21 => ?_) (fun c_21 => ?_)
    · have hf := if_p hf c_21
      refine lv_aload_n hx hb dX5_keeper_31 rfl (lv_at hl 0 rfl) ?_
      refine gf_RX5_10 C hE hH 0 rfl rfl dX5_keeper_32 ?_
      refine lv_iload_n hx hb dX5_keeper_35 rfl (lv_at hl 1 rfl) ?_
      obtain ⟨r_22, R1_23, hc_24, hf⟩ := bind2_inv hf
      refine aftI (runV C hE hA hH [1, 2, 3, 4, 5, 6, 7] nC_X_L_1_7 (sC_X_L_1_7 g ad R1 R2 R3 K T SN SZ F) (kX1_addKeeper l g (fun k => ad (1 + k)) _ R1 x1 r_22 R1_23  hc_24) tw_8_0 tw_8_1 tw_8_2 tw_1_15 tw_8_3 hdX1_addKeeper 1 rfl rfl rfl rfl ⟨Nat.le_of_ble_eq_true rfl, Nat.le_of_ble_eq_true rfl⟩ rfl hl.1 (rest := []) rfl (Nat.le_of_ble_eq_true rfl) dX5_keeper_36 ⟨Nat.zero_le _, Nat.zero_le _⟩) hA hH [1, 2, 3, 4, 5, 6, 7] [0, 8, 9, 10, 11, 12, 13, 14, 15, 16, 17, 18, 19, 20, 21, 22, 23, 24, 25, 26, 27, 28, 29, 30, 31, 32, 33] (sC_X_L_1_7 g ad R1 R2 R3 K T SN SZ F) (sR_X_L_1_7 g ad R1 R2 R3 K T SN SZ F) nR_X_L_1_7 dj_X_L_1_7 [0, 27, 28, 29, 30, 31, 32, 33, 1, 2, 3, 4, 5, 6, 7, 8, 9, 10, 11, 12, 13, 14, 15, 16, 17, 18, 19, 20, 21, 22, 23, 24, 25, 26] nP_X_L_1_7 (sP_X_L_1_7 g ad R1 R2 R3 K T SN SZ F R1_23) (fun H locs hH => ?_)
      have hf := Option.some.inj hf
      obtain ⟨h1, hf⟩ := Prod.mk.inj hf
      obtain ⟨h2, h3⟩ := Prod.mk.inj hf
      subst h1
      subst h2
      subst h3
      exact retI C hH rfl dX5_keeper_39
    · have hf := if_n hf c_21
      refine lv_aload_n hx hb dX5_keeper_24 rfl (lv_at hl 0 rfl) ?_
      refine lv_ldc hx hb hown (hT _ tw_7_16) dX5_keeper_25 ?_
      obtain ⟨r_25, F_26, hc_27, hf⟩ := bind2_inv hf
      refine aftI (runV C hE hA hH [0, 1, 2, 3, 4, 5, 6, 7, 8, 9, 10, 11, 12, 13, 14, 15, 16, 17, 18, 19, 20, 21, 22, 23, 24, 25, 26, 27, 28, 29, 30, 31, 32, 33] nC_X_X_0_33 (sC_X_X_0_33 g ad R1 R2 R3 K T SN SZ F) (kX5_tell l g ad _ R1 R2 R3 K T SN SZ F (-1000000002 : Int32) r_25 F_26  hc_27) tw_4_17 tw_4_18 tw_4_19 tw_1_2 tw_4_20 hdX5_tell 0 rfl rfl rfl rfl ⟨Nat.le_of_ble_eq_true rfl, Nat.le_of_ble_eq_true rfl⟩ rfl hl.1 (rest := []) rfl (Nat.le_of_ble_eq_true rfl) dX5_keeper_27 ⟨Nat.zero_le _, Nat.zero_le _⟩) hA hH [0, 1, 2, 3, 4, 5, 6, 7, 8, 9, 10, 11, 12, 13, 14, 15, 16, 17, 18, 19, 20, 21, 22, 23, 24, 25, 26, 27, 28, 29, 30, 31, 32, 33] [] (sC_X_X_0_33 g ad R1 R2 R3 K T SN SZ F) (sR_X_X_0_33 g ad R1 R2 R3 K T SN SZ F) nR_X_X_0_33 dj_X_X_0_33 [0, 1, 2, 3, 4, 5, 6, 7, 8, 9, 10, 11, 12, 13, 14, 15, 16, 17, 18, 19, 20, 21, 22, 23, 24, 25, 26, 27, 28, 29, 30, 31, 32, 33] nP_X_X_0_33 (sP_X_X_0_33 g ad R1 R2 R3 K T SN SZ F R1 R2 R3 K T SN SZ F_26) (fun H locs hH => ?_)
      have hf := Option.some.inj hf
      obtain ⟨h1, hf⟩ := Prod.mk.inj hf
      obtain ⟨h2, h3⟩ := Prod.mk.inj hf
      subst h1
      subst h2
      subst h3
      exact retI C hH rfl dX5_keeper_30
  · have hf := if_p hf c_18
    refine lv_aload_n hx hb dX5_keeper_7 rfl (lv_at hl 0 rfl) ?_
    refine lv_ldc hx hb hown (hT _ tw_4_12) dX5_keeper_8 ?_
    obtain ⟨r_28, F_29, hc_30, hf⟩ := bind2_inv hf
    refine aftI (runV C hE hA hH [0, 1, 2, 3, 4, 5, 6, 7, 8, 9, 10, 11, 12, 13, 14, 15, 16, 17, 18, 19, 20, 21, 22, 23, 24, 25, 26, 27, 28, 29, 30, 31, 32, 33] nC_X_X_0_33 (sC_X_X_0_33 g ad R1 R2 R3 K T SN SZ F) (kX5_tell l g ad _ R1 R2 R3 K T SN SZ F (-1000000001 : Int32) r_28 F_29  hc_30) tw_4_17 tw_4_18 tw_4_19 tw_1_2 tw_4_20 hdX5_tell 0 rfl rfl rfl rfl ⟨Nat.le_of_ble_eq_true rfl, Nat.le_of_ble_eq_true rfl⟩ rfl hl.1 (rest := []) rfl (Nat.le_of_ble_eq_true rfl) dX5_keeper_10 ⟨Nat.zero_le _, Nat.zero_le _⟩) hA hH [0, 1, 2, 3, 4, 5, 6, 7, 8, 9, 10, 11, 12, 13, 14, 15, 16, 17, 18, 19, 20, 21, 22, 23, 24, 25, 26, 27, 28, 29, 30, 31, 32, 33] [] (sC_X_X_0_33 g ad R1 R2 R3 K T SN SZ F) (sR_X_X_0_33 g ad R1 R2 R3 K T SN SZ F) nR_X_X_0_33 dj_X_X_0_33 [0, 1, 2, 3, 4, 5, 6, 7, 8, 9, 10, 11, 12, 13, 14, 15, 16, 17, 18, 19, 20, 21, 22, 23, 24, 25, 26, 27, 28, 29, 30, 31, 32, 33] nP_X_X_0_33 (sP_X_X_0_33 g ad R1 R2 R3 K T SN SZ F R1 R2 R3 K T SN SZ F_29) (fun H locs hH => ?_)
    have hf := Option.some.inj hf
    obtain ⟨h1, hf⟩ := Prod.mk.inj hf
    obtain ⟨h2, h3⟩ := Prod.mk.inj hf
    subst h1
    subst h2
    subst h3
    exact retI C hH rfl dX5_keeper_13
def fX5_of (x1 : Int32) (x2 : Int32) (R1 : M2) (R2 : M2) (R3 : M2) (K : Int32) (T : M2) (SN : J2) (SZ : M2) (F : M1) : Option (Int32 × M1) := (fX1_hasKeeper x1 R1).bind (fun (r_23 : Int32) => (if r_23 = 0 then bind2 (fX5_tell (-1000000001 : Int32) R1 R2 R3 K T SN SZ F) (fun (r_42 : Int32) (F_43 : M1) => some (r_42, F_43)) else (if x2 = 0 then grd (inb x1 8) (some (R1 2 x1.toNatClampNeg, F)) else (if x2 = 1 then grd (inb x1 8) (some (R1 3 x1.toNatClampNeg, F)) else (if x2 = 2 then grd (inb x1 8) (some (R1 4 x1.toNatClampNeg, F)) else (if x2 = 3 then grd (inb x1 8) (some (R1 5 x1.toNatClampNeg, F)) else (if x2 = 4 then grd (inb x1 8) (some (R1 6 x1.toNatClampNeg, F)) else (if x2 = 5 then (fX1_usesOf x1 R1).bind (fun (r_37 : Int32) => some (r_37, F)) else bind2 (fX5_tell (-1000000001 : Int32) R1 R2 R3 K T SN SZ F) (fun (r_39 : Int32) (F_40 : M1) => some (r_39, F_40))))))))))
def rmX5_of : Room := { frames := 3, cells := 0, slots := 0, locals := 66 }
theorem hdX5_of : yX5_of.cls = yX5_of.cls ∧ yX5_of.cls ≠ "java/lang/invoke/MethodHandle" ∧ yX5_of.cls ≠ "java/lang/invoke/VarHandle" ∧ (parseMethodDescriptor yX5_of.desc).map (fun d => d.parameters.length) = some 2 := by decide +kernel
set_option maxHeartbeats 4000000 in
set_option maxRecDepth 100000 in
theorem kX5_of (l : Launch) (g : Gl) (ad : Nat → Nat) (sz : Nat) (R1 : M2) (R2 : M2) (R3 : M2) (K : Int32) (T : M2) (SN : J2) (SZ : M2) (F : M1) (x1 : Int32) (x2 : Int32) (r : Int32) (F' : M1)  (hf : fX5_of x1 x2 R1 R2 R3 K T SN SZ F = some (r, F')) : MetI l yX5_of (Cond.code yX5_of cX5_of 3 (some .int) :: wsL_law) rmX5_of [.ref (ad 0), .int x1, .int x2] g (wX g ad R1 R2 R3 K T SN SZ F) sz r (wX g ad R1 R2 R3 K T SN SZ F') := by
  refine openI (by decide +kernel) (Nat.le_of_ble_eq_true rfl) ?_
  intro p e s m args below meth c A C hE hA hH ls hl
  have hl : lv_has ls 3 [(0, .ref (ad 0)), (1, .int x1), (2, .int x2)] := hl
  have C : Cx p s m args meth c cX5_of 3 (some .int) RX5 := C
  obtain ⟨hx, hb, hml, hown, hT, hr, hlk⟩ := id C
  rw [fX5_of] at hf
  refine lv_aload_n hx hb dX5_of_0 rfl (lv_at hl 0 rfl) ?_
  refine gf_RX5_10 C hE hH 0 rfl rfl dX5_of_1 ?_
  refine lv_iload_n hx hb dX5_of_4 rfl (lv_at hl 1 rfl) ?_
  obtain ⟨r_23, hc_24, hf⟩ := bind_inv hf
  refine aftPI (runV C hE hA hH [1, 2, 3, 4, 5, 6, 7] nC_X_L_1_7 (sC_X_L_1_7 g ad R1 R2 R3 K T SN SZ F) (kX1_hasKeeper l g (fun k => ad (1 + k)) _ R1 x1 r_23  hc_24) tw_9_6 tw_9_7 tw_9_8 tw_1_15 tw_9_9 hdX1_hasKeeper 1 rfl rfl rfl rfl ⟨Nat.le_of_ble_eq_true rfl, Nat.le_of_ble_eq_true rfl⟩ rfl hl.1 (rest := []) rfl (Nat.le_of_ble_eq_true rfl) dX5_of_5 ⟨Nat.zero_le _, Nat.zero_le _⟩) ?_
  refine lv_if_ne (tgt := 18) hx hb dX5_of_8 (by decide) (fun c_25 => ?_) (fun c_25 => ?_)
  · have hf := if_n hf c_25
    refine lv_iload_n hx hb dX5_of_18 rfl (lv_at hl 2 rfl) ?_
    by_cases c_26 : x2 = 0
    · have hf := if_p hf c_26
      refine lv_tableIn (tgt := 56) hx hb dX5_of_19 (by rw [c_26]; decide) (by rw [c_26]; decide) (by rw [c_26]; rfl) (by decide) ?_
      refine lv_aload_n hx hb dX5_of_56 rfl (lv_at hl 0 rfl) ?_
      refine gf_RX5_10 C hE hH 0 rfl rfl dX5_of_57 ?_
      refine gf_RX5_93 C hE hH 1 rfl rfl dX5_of_60 ?_
      refine lv_iload_n hx hb dX5_of_63 rfl (lv_at hl 1 rfl) ?_
      obtain ⟨hi_27, hf⟩ := grd_inv hf
      refine xiald C hE hH 3 rfl hi_27 dX5_of_64 ?_
      have hf := Option.some.inj hf
      obtain ⟨h1, h2⟩ := Prod.mk.inj hf
      subst h1
      subst h2
      exact retI C hH rfl dX5_of_65
    have hf := if_n hf c_26
    by_cases c_28 : x2 = 1
    · have hf := if_p hf c_28
      refine lv_tableIn (tgt := 66) hx hb dX5_of_19 (by rw [c_28]; decide) (by rw [c_28]; decide) (by rw [c_28]; rfl) (by decide) ?_
      refine lv_aload_n hx hb dX5_of_66 rfl (lv_at hl 0 rfl) ?_
      refine gf_RX5_10 C hE hH 0 rfl rfl dX5_of_67 ?_
      refine gf_RX5_96 C hE hH 1 rfl rfl dX5_of_70 ?_
      refine lv_iload_n hx hb dX5_of_73 rfl (lv_at hl 1 rfl) ?_
      obtain ⟨hi_29, hf⟩ := grd_inv hf
      refine xiald C hE hH 4 rfl hi_29 dX5_of_74 ?_
      have hf := Option.some.inj hf
      obtain ⟨h1, h2⟩ := Prod.mk.inj hf
      subst h1
      subst h2
      exact retI C hH rfl dX5_of_75
    have hf := if_n hf c_28
    by_cases c_30 : x2 = 2
    · have hf := if_p hf c_30
      refine lv_tableIn (tgt := 76) hx hb dX5_of_19 (by rw [c_30]; decide) (by rw [c_30]; decide) (by rw [c_30]; rfl) (by decide) ?_
      refine lv_aload_n hx hb dX5_of_76 rfl (lv_at hl 0 rfl) ?_
      refine gf_RX5_10 C hE hH 0 rfl rfl dX5_of_77 ?_
      refine gf_RX5_99 C hE hH 1 rfl rfl dX5_of_80 ?_
      refine lv_iload_n hx hb dX5_of_83 rfl (lv_at hl 1 rfl) ?_
      obtain ⟨hi_31, hf⟩ := grd_inv hf
      refine xiald C hE hH 5 rfl hi_31 dX5_of_84 ?_
      have hf := Option.some.inj hf
      obtain ⟨h1, h2⟩ := Prod.mk.inj hf
      subst h1
      subst h2
      exact retI C hH rfl dX5_of_85
    have hf := if_n hf c_30
    by_cases c_32 : x2 = 3
    · have hf := if_p hf c_32
      refine lv_tableIn (tgt := 86) hx hb dX5_of_19 (by rw [c_32]; decide) (by rw [c_32]; decide) (by rw [c_32]; rfl) (by decide) ?_
      refine lv_aload_n hx hb dX5_of_86 rfl (lv_at hl 0 rfl) ?_
      refine gf_RX5_10 C hE hH 0 rfl rfl dX5_of_87 ?_
      refine gf_RX5_102 C hE hH 1 rfl rfl dX5_of_90 ?_
      refine lv_iload_n hx hb dX5_of_93 rfl (lv_at hl 1 rfl) ?_
      obtain ⟨hi_33, hf⟩ := grd_inv hf
      refine xiald C hE hH 6 rfl hi_33 dX5_of_94 ?_
      have hf := Option.some.inj hf
      obtain ⟨h1, h2⟩ := Prod.mk.inj hf
      subst h1
      subst h2
      exact retI C hH rfl dX5_of_95
    have hf := if_n hf c_32
    by_cases c_34 : x2 = 4
    · have hf := if_p hf c_34
      refine lv_tableIn (tgt := 96) hx hb dX5_of_19 (by rw [c_34]; decide) (by rw [c_34]; decide) (by rw [c_34]; rfl) (by decide) ?_
      refine lv_aload_n hx hb dX5_of_96 rfl (lv_at hl 0 rfl) ?_
      refine gf_RX5_10 C hE hH 0 rfl rfl dX5_of_97 ?_
      refine gf_RX5_105 C hE hH 1 rfl rfl dX5_of_100 ?_
      refine lv_iload_n hx hb dX5_of_103 rfl (lv_at hl 1 rfl) ?_
      obtain ⟨hi_35, hf⟩ := grd_inv hf
      refine xiald C hE hH 7 rfl hi_35 dX5_of_104 ?_
      have hf := Option.some.inj hf
      obtain ⟨h1, h2⟩ := Prod.mk.inj hf
      subst h1
      subst h2
      exact retI C hH rfl dX5_of_105
    have hf := if_n hf c_34
    by_cases c_36 : x2 = 5
    · have hf := if_p hf c_36
      refine lv_tableIn (tgt := 106) hx hb dX5_of_19 (by rw [c_36]; decide) (by rw [c_36]; decide) (by rw [c_36]; rfl) (by decide) ?_
      refine lv_aload_n hx hb dX5_of_106 rfl (lv_at hl 0 rfl) ?_
      refine gf_RX5_10 C hE hH 0 rfl rfl dX5_of_107 ?_
      refine lv_iload_n hx hb dX5_of_110 rfl (lv_at hl 1 rfl) ?_
      obtain ⟨r_37, hc_38, hf⟩ := bind_inv hf
      refine aftPI (runV C hE hA hH [1, 2, 3, 4, 5, 6, 7] nC_X_L_1_7 (sC_X_L_1_7 g ad R1 R2 R3 K T SN SZ F) (kX1_usesOf l g (fun k => ad (1 + k)) _ R1 x1 r_37  hc_38) tw_9_10 tw_9_11 tw_9_12 tw_1_15 tw_9_13 hdX1_usesOf 1 rfl rfl rfl rfl ⟨Nat.le_of_ble_eq_true rfl, Nat.le_of_ble_eq_true rfl⟩ rfl hl.1 (rest := []) rfl (Nat.le_of_ble_eq_true rfl) dX5_of_111 ⟨Nat.zero_le _, Nat.zero_le _⟩) ?_
      have hf := Option.some.inj hf
      obtain ⟨h1, h2⟩ := Prod.mk.inj hf
      subst h1
      subst h2
      exact retI C hH rfl dX5_of_114
    have hf := if_n hf c_36
    refine lv_tableOut (tgt := 115) hx hb dX5_of_19 (by have qc_26 := lv_neT c_26 (a := 0) (by decide); have qc_28 := lv_neT c_28 (a := 1) (by decide); have qc_30 := lv_neT c_30 (a := 2) (by decide); have qc_32 := lv_neT c_32 (a := 3) (by decide); have qc_34 := lv_neT c_34 (a := 4) (by decide); have qc_36 := lv_neT c_36 (a := 5) (by decide); omega) (by decide) ?_
    refine lv_aload_n hx hb dX5_of_115 rfl (lv_at hl 0 rfl) ?_
    refine lv_ldc hx hb hown (hT _ tw_4_12) dX5_of_116 ?_
    obtain ⟨r_39, F_40, hc_41, hf⟩ := bind2_inv hf
    refine aftI (runV C hE hA hH [0, 1, 2, 3, 4, 5, 6, 7, 8, 9, 10, 11, 12, 13, 14, 15, 16, 17, 18, 19, 20, 21, 22, 23, 24, 25, 26, 27, 28, 29, 30, 31, 32, 33] nC_X_X_0_33 (sC_X_X_0_33 g ad R1 R2 R3 K T SN SZ F) (kX5_tell l g ad _ R1 R2 R3 K T SN SZ F (-1000000001 : Int32) r_39 F_40  hc_41) tw_4_17 tw_4_18 tw_4_19 tw_1_2 tw_4_20 hdX5_tell 0 rfl rfl rfl rfl ⟨Nat.le_of_ble_eq_true rfl, Nat.le_of_ble_eq_true rfl⟩ rfl hl.1 (rest := []) rfl (Nat.le_of_ble_eq_true rfl) dX5_of_118 ⟨Nat.zero_le _, Nat.zero_le _⟩) hA hH [0, 1, 2, 3, 4, 5, 6, 7, 8, 9, 10, 11, 12, 13, 14, 15, 16, 17, 18, 19, 20, 21, 22, 23, 24, 25, 26, 27, 28, 29, 30, 31, 32, 33] [] (sC_X_X_0_33 g ad R1 R2 R3 K T SN SZ F) (sR_X_X_0_33 g ad R1 R2 R3 K T SN SZ F) nR_X_X_0_33 dj_X_X_0_33 [0, 1, 2, 3, 4, 5, 6, 7, 8, 9, 10, 11, 12, 13, 14, 15, 16, 17, 18, 19, 20, 21, 22, 23, 24, 25, 26, 27, 28, 29, 30, 31, 32, 33] nP_X_X_0_33 (sP_X_X_0_33 g ad R1 R2 R3 K T SN SZ F R1 R2 R3 K T SN SZ F_40) (fun H locs hH => ?_)
    have hf := Option.some.inj hf
    obtain ⟨h1, h2⟩ := Prod.mk.inj hf
    subst h1
    subst h2
    exact retI C hH rfl dX5_of_121
  · have hf := if_p hf c_25
    refine lv_aload_n hx hb dX5_of_11 rfl (lv_at hl 0 rfl) ?_
    refine lv_ldc hx hb hown (hT _ tw_4_12) dX5_of_12 ?_
    obtain ⟨r_42, F_43, hc_44, hf⟩ := bind2_inv hf
    refine aftI (runV C hE hA hH [0, 1, 2, 3, 4, 5, 6, 7, 8, 9, 10, 11, 12, 13, 14, 15, 16, 17, 18, 19, 20, 21, 22, 23, 24, 25, 26, 27, 28, 29, 30, 31, 32, 33] nC_X_X_0_33 (sC_X_X_0_33 g ad R1 R2 R3 K T SN SZ F) (kX5_tell l g ad _ R1 R2 R3 K T SN SZ F (-1000000001 : Int32) r_42 F_43  hc_44) tw_4_17 tw_4_18 tw_4_19 tw_1_2 tw_4_20 hdX5_tell 0 rfl rfl rfl rfl ⟨Nat.le_of_ble_eq_true rfl, Nat.le_of_ble_eq_true rfl⟩ rfl hl.1 (rest := []) rfl (Nat.le_of_ble_eq_true rfl) dX5_of_14 ⟨Nat.zero_le _, Nat.zero_le _⟩) hA hH [0, 1, 2, 3, 4, 5, 6, 7, 8, 9, 10, 11, 12, 13, 14, 15, 16, 17, 18, 19, 20, 21, 22, 23, 24, 25, 26, 27, 28, 29, 30, 31, 32, 33] [] (sC_X_X_0_33 g ad R1 R2 R3 K T SN SZ F) (sR_X_X_0_33 g ad R1 R2 R3 K T SN SZ F) nR_X_X_0_33 dj_X_X_0_33 [0, 1, 2, 3, 4, 5, 6, 7, 8, 9, 10, 11, 12, 13, 14, 15, 16, 17, 18, 19, 20, 21, 22, 23, 24, 25, 26, 27, 28, 29, 30, 31, 32, 33] nP_X_X_0_33 (sP_X_X_0_33 g ad R1 R2 R3 K T SN SZ F R1 R2 R3 K T SN SZ F_43) (fun H locs hH => ?_)
    have hf := Option.some.inj hf
    obtain ⟨h1, h2⟩ := Prod.mk.inj hf
    subst h1
    subst h2
    exact retI C hH rfl dX5_of_17
def fX5_can_c21  (R1 : M2) (R2 : M2) (R3 : M2) (K : Int32) (T : M2) (SN : J2) (SZ : M2) (F : M1) : Option (Int32 × M1) := bind2 (fX5_tell (-1000000001 : Int32) R1 R2 R3 K T SN SZ F) (fun (r_21 : Int32) (F_22 : M1) => some (r_21, F_22))
def fX5_can (x1 : Int32) (x2 : Int32) (x3 : Int32) (R1 : M2) (R2 : M2) (R3 : M2) (K : Int32) (T : M2) (SN : J2) (SZ : M2) (F : M1) : Option (Int32 × M1) := (fX1_hasKeeper x1 R1).bind (fun (r_24 : Int32) => (if r_24 = 0 then fX5_can_c21  R1 R2 R3 K T SN SZ F else (fX5_within x3 (1 : Int32) (13 : Int32)).bind (fun (r_27 : Int32) => (if r_27 = 0 then fX5_can_c21  R1 R2 R3 K T SN SZ F else (if x2 = 0 then grd (inb x1 8) ((fX0_brings (R1 2 x1.toNatClampNeg) x3).bind (fun (r_32 : Int32) => some (r_32, F))) else (if x2 = 1 then grd (inb x1 8) ((fX0_tells (R1 2 x1.toNatClampNeg) x3).bind (fun (r_36 : Int32) => some (r_36, F))) else bind2 (fX5_tell (-1000000001 : Int32) R1 R2 R3 K T SN SZ F) (fun (r_38 : Int32) (F_39 : M1) => some (r_38, F_39))))))))
def rmX5_can : Room := { frames := 2, cells := 0, slots := 0, locals := 44 }
theorem hdX5_can : yX5_can.cls = yX5_can.cls ∧ yX5_can.cls ≠ "java/lang/invoke/MethodHandle" ∧ yX5_can.cls ≠ "java/lang/invoke/VarHandle" ∧ (parseMethodDescriptor yX5_can.desc).map (fun d => d.parameters.length) = some 3 := by decide +kernel
set_option maxHeartbeats 4000000 in
set_option maxRecDepth 100000 in
theorem kX5_can (l : Launch) (g : Gl) (ad : Nat → Nat) (sz : Nat) (R1 : M2) (R2 : M2) (R3 : M2) (K : Int32) (T : M2) (SN : J2) (SZ : M2) (F : M1) (x1 : Int32) (x2 : Int32) (x3 : Int32) (r : Int32) (F' : M1)  (hf : fX5_can x1 x2 x3 R1 R2 R3 K T SN SZ F = some (r, F')) : MetI l yX5_can (Cond.code yX5_can cX5_can 4 (some .int) :: wsL_law) rmX5_can [.ref (ad 0), .int x1, .int x2, .int x3] g (wX g ad R1 R2 R3 K T SN SZ F) sz r (wX g ad R1 R2 R3 K T SN SZ F') := by
  refine openI (by decide +kernel) (Nat.le_of_ble_eq_true rfl) ?_
  intro p e s m args below meth c A C hE hA hH ls hl
  have hl : lv_has ls 4 [(0, .ref (ad 0)), (1, .int x1), (2, .int x2), (3, .int x3)] := hl
  have C : Cx p s m args meth c cX5_can 4 (some .int) RX5 := C
  obtain ⟨hx, hb, hml, hown, hT, hr, hlk⟩ := id C
  rw [fX5_can] at hf
  have j_21 : ∀ (F : M1) (H : Heap) (locs : List Loc) (ls : Array Slot), fX5_can_c21  R1 R2 R3 K T SN SZ F = some (r, F') → Hp g A s H locs (wX g ad R1 R2 R3 K T SN SZ F) → lv_has ls 4 [(0, .ref (ad 0))] → W p l e rmX5_can s m args below meth c H locs 0 0 (QI g A below args s r (wX g ad R1 R2 R3 K T SN SZ F')) (F0 m 21 ls []) := by
    intro F H locs  ls hf hH hl
    rw [fX5_can_c21] at hf
    refine lv_aload_n hx hb dX5_can_21 rfl (lv_at hl 0 rfl) ?_
    refine lv_ldc hx hb hown (hT _ tw_4_12) dX5_can_22 ?_
    obtain ⟨r_21, F_22, hc_23, hf⟩ := bind2_inv hf
    refine aftI (runV C hE hA hH [0, 1, 2, 3, 4, 5, 6, 7, 8, 9, 10, 11, 12, 13, 14, 15, 16, 17, 18, 19, 20, 21, 22, 23, 24, 25, 26, 27, 28, 29, 30, 31, 32, 33] nC_X_X_0_33 (sC_X_X_0_33 g ad R1 R2 R3 K T SN SZ F) (kX5_tell l g ad _ R1 R2 R3 K T SN SZ F (-1000000001 : Int32) r_21 F_22  hc_23) tw_4_17 tw_4_18 tw_4_19 tw_1_2 tw_4_20 hdX5_tell 0 rfl rfl rfl rfl ⟨Nat.le_of_ble_eq_true rfl, Nat.le_of_ble_eq_true rfl⟩ rfl hl.1 (rest := []) rfl (Nat.le_of_ble_eq_true rfl) dX5_can_24 ⟨Nat.zero_le _, Nat.zero_le _⟩) hA hH [0, 1, 2, 3, 4, 5, 6, 7, 8, 9, 10, 11, 12, 13, 14, 15, 16, 17, 18, 19, 20, 21, 22, 23, 24, 25, 26, 27, 28, 29, 30, 31, 32, 33] [] (sC_X_X_0_33 g ad R1 R2 R3 K T SN SZ F) (sR_X_X_0_33 g ad R1 R2 R3 K T SN SZ F) nR_X_X_0_33 dj_X_X_0_33 [0, 1, 2, 3, 4, 5, 6, 7, 8, 9, 10, 11, 12, 13, 14, 15, 16, 17, 18, 19, 20, 21, 22, 23, 24, 25, 26, 27, 28, 29, 30, 31, 32, 33] nP_X_X_0_33 (sP_X_X_0_33 g ad R1 R2 R3 K T SN SZ F R1 R2 R3 K T SN SZ F_22) (fun H locs hH => ?_)
    have hf := Option.some.inj hf
    obtain ⟨h1, h2⟩ := Prod.mk.inj hf
    subst h1
    subst h2
    exact retI C hH rfl dX5_can_27
  refine lv_aload_n hx hb dX5_can_0 rfl (lv_at hl 0 rfl) ?_
  refine gf_RX5_10 C hE hH 0 rfl rfl dX5_can_1 ?_
  refine lv_iload_n hx hb dX5_can_4 rfl (lv_at hl 1 rfl) ?_
  obtain ⟨r_24, hc_25, hf⟩ := bind_inv hf
  refine aftPI (runV C hE hA hH [1, 2, 3, 4, 5, 6, 7] nC_X_L_1_7 (sC_X_L_1_7 g ad R1 R2 R3 K T SN SZ F) (kX1_hasKeeper l g (fun k => ad (1 + k)) _ R1 x1 r_24  hc_25) tw_9_6 tw_9_7 tw_9_8 tw_1_15 tw_9_9 hdX1_hasKeeper 1 rfl rfl rfl rfl ⟨Nat.le_of_ble_eq_true rfl, Nat.le_of_ble_eq_true rfl⟩ rfl hl.1 (rest := []) rfl (Nat.le_of_ble_eq_true rfl) dX5_can_5 ⟨Nat.zero_le _, Nat.zero_le _⟩) ?_
  refine lv_if_eq (tgt := 21) hx hb dX5_can_8 (by decide) (fun c_26 => ?_) (fun c_26 => ?_)
  · have hf := if_p hf c_26
    exact j_21 F _ _ ls hf hH (lv_sub hl [0] rfl)
  · have hf := if_n hf c_26
    refine lv_iload_n hx hb dX5_can_11 rfl (lv_at hl 3 rfl) ?_
    refine lv_iconst (v := 1) hx hb dX5_can_12 (by decide) ?_
    refine lv_bipush (v := 13) hx hb dX5_can_13 (by decide) ?_
    obtain ⟨r_27, hc_28, hf⟩ := bind_inv hf
    refine aftPI (runS C hE hA hH [] rfl rfl (kX5_within l g ad _ x3 (1 : Int32) (13 : Int32) r_27  hc_28) tw_4_14 tw_4_15 tw_1_2 tw_4_16 hdX5_within rfl rfl ⟨Nat.le_of_ble_eq_true rfl, Nat.le_of_ble_eq_true rfl⟩ rfl hl.1 (rest := []) rfl (Nat.le_of_ble_eq_true rfl) dX5_can_15 ⟨Nat.zero_le _, Nat.zero_le _⟩) ?_
    refine lv_if_ne (tgt := 28) hx hb dX5_can_18 (by decide) (fun c_29 => ?_) (fun c_29 => ?_)
    · have hf := if_n hf c_29
      refine lv_iload_n hx hb dX5_can_28 rfl (lv_at hl 2 rfl) ?_
      by_cases c_30 : x2 = 0
      · have hf := if_p hf c_30
        refine lv_lookup (tgt := 56) (off := 27) hx hb dX5_can_29 (by decide) (by rw [c_30]; try rfl) (by decide) ?_
        refine lv_aload_n hx hb dX5_can_56 rfl (lv_at hl 0 rfl) ?_
        refine gf_RX5_10 C hE hH 0 rfl rfl dX5_can_57 ?_
        refine gf_RX5_93 C hE hH 1 rfl rfl dX5_can_60 ?_
        refine lv_iload_n hx hb dX5_can_63 rfl (lv_at hl 1 rfl) ?_
        obtain ⟨hi_31, hf⟩ := grd_inv hf
        refine xiald C hE hH 3 rfl hi_31 dX5_can_64 ?_
        refine lv_iload_n hx hb dX5_can_65 rfl (lv_at hl 3 rfl) ?_
        obtain ⟨r_32, hc_33, hf⟩ := bind_inv hf
        refine aftPI (runS C hE hA hH [] rfl rfl (kX0_brings l g ad _ (R1 2 x1.toNatClampNeg) x3 r_32  hc_33) tw_11_6 tw_11_7 tw_9_20 tw_11_8 hdX0_brings rfl rfl ⟨Nat.le_of_ble_eq_true rfl, Nat.le_of_ble_eq_true rfl⟩ rfl hl.1 (rest := []) rfl (Nat.le_of_ble_eq_true rfl) dX5_can_66 ⟨Nat.zero_le _, Nat.zero_le _⟩) ?_
        have hf := Option.some.inj hf
        obtain ⟨h1, h2⟩ := Prod.mk.inj hf
        subst h1
        subst h2
        exact retI C hH rfl dX5_can_69
      have hf := if_n hf c_30
      by_cases c_34 : x2 = 1
      · have hf := if_p hf c_34
        refine lv_lookup (tgt := 70) (off := 41) hx hb dX5_can_29 (by decide) (by rw [c_34]; try rfl) (by decide) ?_
        refine lv_aload_n hx hb dX5_can_70 rfl (lv_at hl 0 rfl) ?_
        refine gf_RX5_10 C hE hH 0 rfl rfl dX5_can_71 ?_
        refine gf_RX5_93 C hE hH 1 rfl rfl dX5_can_74 ?_
        refine lv_iload_n hx hb dX5_can_77 rfl (lv_at hl 1 rfl) ?_
        obtain ⟨hi_35, hf⟩ := grd_inv hf
        refine xiald C hE hH 3 rfl hi_35 dX5_can_78 ?_
        refine lv_iload_n hx hb dX5_can_79 rfl (lv_at hl 3 rfl) ?_
        obtain ⟨r_36, hc_37, hf⟩ := bind_inv hf
        refine aftPI (runS C hE hA hH [] rfl rfl (kX0_tells l g ad _ (R1 2 x1.toNatClampNeg) x3 r_36  hc_37) tw_11_9 tw_11_10 tw_9_20 tw_11_11 hdX0_tells rfl rfl ⟨Nat.le_of_ble_eq_true rfl, Nat.le_of_ble_eq_true rfl⟩ rfl hl.1 (rest := []) rfl (Nat.le_of_ble_eq_true rfl) dX5_can_80 ⟨Nat.zero_le _, Nat.zero_le _⟩) ?_
        have hf := Option.some.inj hf
        obtain ⟨h1, h2⟩ := Prod.mk.inj hf
        subst h1
        subst h2
        exact retI C hH rfl dX5_can_83
      have hf := if_n hf c_34
      refine lv_lookup (tgt := 84) (off := 55) hx hb dX5_can_29 (by decide) (by rw [lv_osw c_30 (by decide), lv_osw c_34 (by decide)]; try rfl) (by decide) ?_
      refine lv_aload_n hx hb dX5_can_84 rfl (lv_at hl 0 rfl) ?_
      refine lv_ldc hx hb hown (hT _ tw_4_12) dX5_can_85 ?_
      obtain ⟨r_38, F_39, hc_40, hf⟩ := bind2_inv hf
      refine aftI (runV C hE hA hH [0, 1, 2, 3, 4, 5, 6, 7, 8, 9, 10, 11, 12, 13, 14, 15, 16, 17, 18, 19, 20, 21, 22, 23, 24, 25, 26, 27, 28, 29, 30, 31, 32, 33] nC_X_X_0_33 (sC_X_X_0_33 g ad R1 R2 R3 K T SN SZ F) (kX5_tell l g ad _ R1 R2 R3 K T SN SZ F (-1000000001 : Int32) r_38 F_39  hc_40) tw_4_17 tw_4_18 tw_4_19 tw_1_2 tw_4_20 hdX5_tell 0 rfl rfl rfl rfl ⟨Nat.le_of_ble_eq_true rfl, Nat.le_of_ble_eq_true rfl⟩ rfl hl.1 (rest := []) rfl (Nat.le_of_ble_eq_true rfl) dX5_can_87 ⟨Nat.zero_le _, Nat.zero_le _⟩) hA hH [0, 1, 2, 3, 4, 5, 6, 7, 8, 9, 10, 11, 12, 13, 14, 15, 16, 17, 18, 19, 20, 21, 22, 23, 24, 25, 26, 27, 28, 29, 30, 31, 32, 33] [] (sC_X_X_0_33 g ad R1 R2 R3 K T SN SZ F) (sR_X_X_0_33 g ad R1 R2 R3 K T SN SZ F) nR_X_X_0_33 dj_X_X_0_33 [0, 1, 2, 3, 4, 5, 6, 7, 8, 9, 10, 11, 12, 13, 14, 15, 16, 17, 18, 19, 20, 21, 22, 23, 24, 25, 26, 27, 28, 29, 30, 31, 32, 33] nP_X_X_0_33 (sP_X_X_0_33 g ad R1 R2 R3 K T SN SZ F R1 R2 R3 K T SN SZ F_39) (fun H locs hH => ?_)
      have hf := Option.some.inj hf
      obtain ⟨h1, h2⟩ := Prod.mk.inj hf
      subst h1
      subst h2
      exact retI C hH rfl dX5_can_90
    · have hf := if_p hf c_29
      exact j_21 F _ _ ls hf hH (lv_sub hl [0] rfl)
def fX5_set_c75  (z0 : Int32) (R1 : M2) (R2 : M2) (R3 : M2) (K : Int32) (T : M2) (SN : J2) (SZ : M2) (F : M1) : Option (Int32 × M2 × M1) := some (z0, R1, F)
def fX5_set_c136  (R1 : M2) (R2 : M2) (R3 : M2) (K : Int32) (T : M2) (SN : J2) (SZ : M2) (F : M1) : Option (Int32 × M2 × M1) := bind2 (fX5_tell (-1000000001 : Int32) R1 R2 R3 K T SN SZ F) (fun (r_41 : Int32) (F_42 : M1) => some (r_41, R1, F_42))
def fX5_set_c105  (z0 : Int32) (R1 : M2) (R2 : M2) (R3 : M2) (K : Int32) (T : M2) (SN : J2) (SZ : M2) (F : M1) : Option (Int32 × M2 × M1) := some (z0, R1, F)
def fX5_set_c135  (z0 : Int32) (R1 : M2) (R2 : M2) (R3 : M2) (K : Int32) (T : M2) (SN : J2) (SZ : M2) (F : M1) : Option (Int32 × M2 × M1) := some (z0, R1, F)
def fX5_set (x1 : Int32) (x2 : Int32) (x3 : Int32) (R1 : M2) (R2 : M2) (R3 : M2) (K : Int32) (T : M2) (SN : J2) (SZ : M2) (F : M1) : Option (Int32 × M2 × M1) := (fX1_hasKeeper x1 R1).bind (fun (r_44 : Int32) => (if r_44 = 0 then bind2 (fX5_tell (-1000000001 : Int32) R1 R2 R3 K T SN SZ F) (fun (r_78 : Int32) (F_79 : M1) => some (r_78, R1, F_79)) else (if x2 = 1 then (fX5_within x3 (0 : Int32) (1 : Int32)).bind (fun (r_48 : Int32) => (if r_48 = 0 then bind2 (fX5_tell (-1000000001 : Int32) R1 R2 R3 K T SN SZ F) (fun (r_51 : Int32) (F_52 : M1) => fX5_set_c75  r_51 R1 R2 R3 K T SN SZ F_52) else bind2 (fX1_putStand x1 x3 R1) (fun (r_54 : Int32) (R1_55 : M2) => fX5_set_c75  r_54 R1_55 R2 R3 K T SN SZ F))) else (if x2 = 2 then fX5_set_c136  R1 R2 R3 K T SN SZ F else (if x2 = 3 then (fX5_within x3 (0 : Int32) (511 : Int32)).bind (fun (r_59 : Int32) => (if r_59 = 0 then bind2 (fX5_tell (-1000000001 : Int32) R1 R2 R3 K T SN SZ F) (fun (r_62 : Int32) (F_63 : M1) => fX5_set_c105  r_62 R1 R2 R3 K T SN SZ F_63) else bind2 (fX1_putWords x1 x3 R1) (fun (r_65 : Int32) (R1_66 : M2) => fX5_set_c105  r_65 R1_66 R2 R3 K T SN SZ F))) else (if x2 = 4 then (fX5_within x3 (0 : Int32) (9999 : Int32)).bind (fun (r_69 : Int32) => (if r_69 = 0 then bind2 (fX5_tell (-1000000001 : Int32) R1 R2 R3 K T SN SZ F) (fun (r_72 : Int32) (F_73 : M1) => fX5_set_c135  r_72 R1 R2 R3 K T SN SZ F_73) else bind2 (fX1_putMet x1 x3 R1) (fun (r_75 : Int32) (R1_76 : M2) => fX5_set_c135  r_75 R1_76 R2 R3 K T SN SZ F))) else fX5_set_c136  R1 R2 R3 K T SN SZ F))))))
def rmX5_set : Room := { frames := 2, cells := 0, slots := 0, locals := 44 }
theorem hdX5_set : yX5_set.cls = yX5_set.cls ∧ yX5_set.cls ≠ "java/lang/invoke/MethodHandle" ∧ yX5_set.cls ≠ "java/lang/invoke/VarHandle" ∧ (parseMethodDescriptor yX5_set.desc).map (fun d => d.parameters.length) = some 3 := by decide +kernel
set_option maxHeartbeats 4000000 in
set_option maxRecDepth 100000 in
theorem kX5_set (l : Launch) (g : Gl) (ad : Nat → Nat) (sz : Nat) (R1 : M2) (R2 : M2) (R3 : M2) (K : Int32) (T : M2) (SN : J2) (SZ : M2) (F : M1) (x1 : Int32) (x2 : Int32) (x3 : Int32) (r : Int32) (R1' : M2) (F' : M1)  (hf : fX5_set x1 x2 x3 R1 R2 R3 K T SN SZ F = some (r, R1', F')) : MetI l yX5_set (Cond.code yX5_set cX5_set 4 (some .int) :: wsL_law) rmX5_set [.ref (ad 0), .int x1, .int x2, .int x3] g (wX g ad R1 R2 R3 K T SN SZ F) sz r (wX g ad R1' R2 R3 K T SN SZ F') := by
  refine openI (by decide +kernel) (Nat.le_of_ble_eq_true rfl) ?_
  intro p e s m args below meth c A C hE hA hH ls hl
  have hl : lv_has ls 4 [(0, .ref (ad 0)), (1, .int x1), (2, .int x2), (3, .int x3)] := hl
  have C : Cx p s m args meth c cX5_set 4 (some .int) RX5 := C
  obtain ⟨hx, hb, hml, hown, hT, hr, hlk⟩ := id C
  rw [fX5_set] at hf
  have j_75 : ∀ (z0 : Int32) (R1 : M2) (F : M1) (H : Heap) (locs : List Loc) (ls : Array Slot), fX5_set_c75  z0 R1 R2 R3 K T SN SZ F = some (r, R1', F') → Hp g A s H locs (wX g ad R1 R2 R3 K T SN SZ F) → lv_has ls 4 [] → W p l e rmX5_set s m args below meth c H locs 0 0 (QI g A below args s r (wX g ad R1' R2 R3 K T SN SZ F')) (F0 m 75 ls [.int z0]) := by
    intro z0 R1 F H locs  ls hf hH hl
    rw [fX5_set_c75] at hf
    have hf := Option.some.inj hf
    obtain ⟨h1, hf⟩ := Prod.mk.inj hf
    obtain ⟨h2, h3⟩ := Prod.mk.inj hf
    subst h1
    subst h2
    subst h3
    exact retI C hH rfl dX5_set_75
  have j_136 : ∀ (R1 : M2) (F : M1) (H : Heap) (locs : List Loc) (ls : Array Slot), fX5_set_c136  R1 R2 R3 K T SN SZ F = some (r, R1', F') → Hp g A s H locs (wX g ad R1 R2 R3 K T SN SZ F) → lv_has ls 4 [(0, .ref (ad 0))] → W p l e rmX5_set s m args below meth c H locs 0 0 (QI g A below args s r (wX g ad R1' R2 R3 K T SN SZ F')) (F0 m 136 ls []) := by
    intro R1 F H locs  ls hf hH hl
    rw [fX5_set_c136] at hf
    refine lv_aload_n hx hb dX5_set_136 rfl (lv_at hl 0 rfl) ?_
    refine lv_ldc hx hb hown (hT _ tw_4_12) dX5_set_137 ?_
    obtain ⟨r_41, F_42, hc_43, hf⟩ := bind2_inv hf
    refine aftI (runV C hE hA hH [0, 1, 2, 3, 4, 5, 6, 7, 8, 9, 10, 11, 12, 13, 14, 15, 16, 17, 18, 19, 20, 21, 22, 23, 24, 25, 26, 27, 28, 29, 30, 31, 32, 33] nC_X_X_0_33 (sC_X_X_0_33 g ad R1 R2 R3 K T SN SZ F) (kX5_tell l g ad _ R1 R2 R3 K T SN SZ F (-1000000001 : Int32) r_41 F_42  hc_43) tw_4_17 tw_4_18 tw_4_19 tw_1_2 tw_4_20 hdX5_tell 0 rfl rfl rfl rfl ⟨Nat.le_of_ble_eq_true rfl, Nat.le_of_ble_eq_true rfl⟩ rfl hl.1 (rest := []) rfl (Nat.le_of_ble_eq_true rfl) dX5_set_139 ⟨Nat.zero_le _, Nat.zero_le _⟩) hA hH [0, 1, 2, 3, 4, 5, 6, 7, 8, 9, 10, 11, 12, 13, 14, 15, 16, 17, 18, 19, 20, 21, 22, 23, 24, 25, 26, 27, 28, 29, 30, 31, 32, 33] [] (sC_X_X_0_33 g ad R1 R2 R3 K T SN SZ F) (sR_X_X_0_33 g ad R1 R2 R3 K T SN SZ F) nR_X_X_0_33 dj_X_X_0_33 [0, 1, 2, 3, 4, 5, 6, 7, 8, 9, 10, 11, 12, 13, 14, 15, 16, 17, 18, 19, 20, 21, 22, 23, 24, 25, 26, 27, 28, 29, 30, 31, 32, 33] nP_X_X_0_33 (sP_X_X_0_33 g ad R1 R2 R3 K T SN SZ F R1 R2 R3 K T SN SZ F_42) (fun H locs hH => ?_)
    have hf := Option.some.inj hf
    obtain ⟨h1, hf⟩ := Prod.mk.inj hf
    obtain ⟨h2, h3⟩ := Prod.mk.inj hf
    subst h1
    subst h2
    subst h3
    exact retI C hH rfl dX5_set_142
  have j_105 : ∀ (z0 : Int32) (R1 : M2) (F : M1) (H : Heap) (locs : List Loc) (ls : Array Slot), fX5_set_c105  z0 R1 R2 R3 K T SN SZ F = some (r, R1', F') → Hp g A s H locs (wX g ad R1 R2 R3 K T SN SZ F) → lv_has ls 4 [] → W p l e rmX5_set s m args below meth c H locs 0 0 (QI g A below args s r (wX g ad R1' R2 R3 K T SN SZ F')) (F0 m 105 ls [.int z0]) := by
    intro z0 R1 F H locs  ls hf hH hl
    rw [fX5_set_c105] at hf
    have hf := Option.some.inj hf
    obtain ⟨h1, hf⟩ := Prod.mk.inj hf
    obtain ⟨h2, h3⟩ := Prod.mk.inj hf
    subst h1
    subst h2
    subst h3
    exact retI C hH rfl dX5_set_105
  have j_135 : ∀ (z0 : Int32) (R1 : M2) (F : M1) (H : Heap) (locs : List Loc) (ls : Array Slot), fX5_set_c135  z0 R1 R2 R3 K T SN SZ F = some (r, R1', F') → Hp g A s H locs (wX g ad R1 R2 R3 K T SN SZ F) → lv_has ls 4 [] → W p l e rmX5_set s m args below meth c H locs 0 0 (QI g A below args s r (wX g ad R1' R2 R3 K T SN SZ F')) (F0 m 135 ls [.int z0]) := by
    intro z0 R1 F H locs  ls hf hH hl
    rw [fX5_set_c135] at hf
    have hf := Option.some.inj hf
    obtain ⟨h1, hf⟩ := Prod.mk.inj hf
    obtain ⟨h2, h3⟩ := Prod.mk.inj hf
    subst h1
    subst h2
    subst h3
    exact retI C hH rfl dX5_set_135
  refine lv_aload_n hx hb dX5_set_0 rfl (lv_at hl 0 rfl) ?_
  refine gf_RX5_10 C hE hH 0 rfl rfl dX5_set_1 ?_
  refine lv_iload_n hx hb dX5_set_4 rfl (lv_at hl 1 rfl) ?_
  obtain ⟨r_44, hc_45, hf⟩ := bind_inv hf
  refine aftPI (runV C hE hA hH [1, 2, 3, 4, 5, 6, 7] nC_X_L_1_7 (sC_X_L_1_7 g ad R1 R2 R3 K T SN SZ F) (kX1_hasKeeper l g (fun k => ad (1 + k)) _ R1 x1 r_44  hc_45) tw_9_6 tw_9_7 tw_9_8 tw_1_15 tw_9_9 hdX1_hasKeeper 1 rfl rfl rfl rfl ⟨Nat.le_of_ble_eq_true rfl, Nat.le_of_ble_eq_true rfl⟩ rfl hl.1 (rest := []) rfl (Nat.le_of_ble_eq_true rfl) dX5_set_5 ⟨Nat.zero_le _, Nat.zero_le _⟩) ?_
  refine lv_if_ne (tgt := 18) hx hb dX5_set_8 (by decide) (fun c_46 => ?_) (fun c_46 => ?_)
  · have hf := if_n hf c_46
    refine lv_iload_n hx hb dX5_set_18 rfl (lv_at hl 2 rfl) ?_
    by_cases c_47 : x2 = 1
    · have hf := if_p hf c_47
      refine lv_tableIn (tgt := 48) hx hb dX5_set_19 (by rw [c_47]; decide) (by rw [c_47]; decide) (by rw [c_47]; rfl) (by decide) ?_
      refine lv_iload_n hx hb dX5_set_48 rfl (lv_at hl 3 rfl) ?_
      refine lv_iconst (v := 0) hx hb dX5_set_49 (by decide) ?_
      refine lv_iconst (v := 1) hx hb dX5_set_50 (by decide) ?_
      obtain ⟨r_48, hc_49, hf⟩ := bind_inv hf
      refine aftPI (runS C hE hA hH [] rfl rfl (kX5_within l g ad _ x3 (0 : Int32) (1 : Int32) r_48  hc_49) tw_4_14 tw_4_15 tw_1_2 tw_4_16 hdX5_within rfl rfl ⟨Nat.le_of_ble_eq_true rfl, Nat.le_of_ble_eq_true rfl⟩ rfl hl.1 (rest := []) rfl (Nat.le_of_ble_eq_true rfl) dX5_set_51 ⟨Nat.zero_le _, Nat.zero_le _⟩) ?_
      refine lv_if_eq (tgt := 69) hx hb dX5_set_54 (by decide) (fun c_50 => ?_) (fun c_50 => ?_)
      · have hf := if_p hf c_50
        refine lv_aload_n hx hb dX5_set_69 rfl (lv_at hl 0 rfl) ?_
        refine lv_ldc hx hb hown (hT _ tw_4_12) dX5_set_70 ?_
        obtain ⟨r_51, F_52, hc_53, hf⟩ := bind2_inv hf
        refine aftI (runV C hE hA hH [0, 1, 2, 3, 4, 5, 6, 7, 8, 9, 10, 11, 12, 13, 14, 15, 16, 17, 18, 19, 20, 21, 22, 23, 24, 25, 26, 27, 28, 29, 30, 31, 32, 33] nC_X_X_0_33 (sC_X_X_0_33 g ad R1 R2 R3 K T SN SZ F) (kX5_tell l g ad _ R1 R2 R3 K T SN SZ F (-1000000001 : Int32) r_51 F_52  hc_53) tw_4_17 tw_4_18 tw_4_19 tw_1_2 tw_4_20 hdX5_tell 0 rfl rfl rfl rfl ⟨Nat.le_of_ble_eq_true rfl, Nat.le_of_ble_eq_true rfl⟩ rfl hl.1 (rest := []) rfl (Nat.le_of_ble_eq_true rfl) dX5_set_72 ⟨Nat.zero_le _, Nat.zero_le _⟩) hA hH [0, 1, 2, 3, 4, 5, 6, 7, 8, 9, 10, 11, 12, 13, 14, 15, 16, 17, 18, 19, 20, 21, 22, 23, 24, 25, 26, 27, 28, 29, 30, 31, 32, 33] [] (sC_X_X_0_33 g ad R1 R2 R3 K T SN SZ F) (sR_X_X_0_33 g ad R1 R2 R3 K T SN SZ F) nR_X_X_0_33 dj_X_X_0_33 [0, 1, 2, 3, 4, 5, 6, 7, 8, 9, 10, 11, 12, 13, 14, 15, 16, 17, 18, 19, 20, 21, 22, 23, 24, 25, 26, 27, 28, 29, 30, 31, 32, 33] nP_X_X_0_33 (sP_X_X_0_33 g ad R1 R2 R3 K T SN SZ F R1 R2 R3 K T SN SZ F_52) (fun H locs hH => ?_)
        exact j_75 r_51 R1 F_52 _ _ ls hf hH (lv_sub hl [] rfl)
      · have hf := if_n hf c_50
        refine lv_aload_n hx hb dX5_set_57 rfl (lv_at hl 0 rfl) ?_
        refine gf_RX5_10 C hE hH 0 rfl rfl dX5_set_58 ?_
        refine lv_iload_n hx hb dX5_set_61 rfl (lv_at hl 1 rfl) ?_
        refine lv_iload_n hx hb dX5_set_62 rfl (lv_at hl 3 rfl) ?_
        obtain ⟨r_54, R1_55, hc_56, hf⟩ := bind2_inv hf
        refine aftI (runV C hE hA hH [1, 2, 3, 4, 5, 6, 7] nC_X_L_1_7 (sC_X_L_1_7 g ad R1 R2 R3 K T SN SZ F) (kX1_putStand l g (fun k => ad (1 + k)) _ R1 x1 x3 r_54 R1_55  hc_56) tw_12_4 tw_12_5 tw_12_6 tw_1_15 tw_12_7 hdX1_putStand 1 rfl rfl rfl rfl ⟨Nat.le_of_ble_eq_true rfl, Nat.le_of_ble_eq_true rfl⟩ rfl hl.1 (rest := []) rfl (Nat.le_of_ble_eq_true rfl) dX5_set_63 ⟨Nat.zero_le _, Nat.zero_le _⟩) hA hH [1, 2, 3, 4, 5, 6, 7] [0, 8, 9, 10, 11, 12, 13, 14, 15, 16, 17, 18, 19, 20, 21, 22, 23, 24, 25, 26, 27, 28, 29, 30, 31, 32, 33] (sC_X_L_1_7 g ad R1 R2 R3 K T SN SZ F) (sR_X_L_1_7 g ad R1 R2 R3 K T SN SZ F) nR_X_L_1_7 dj_X_L_1_7 [0, 27, 28, 29, 30, 31, 32, 33, 1, 2, 3, 4, 5, 6, 7, 8, 9, 10, 11, 12, 13, 14, 15, 16, 17, 18, 19, 20, 21, 22, 23, 24, 25, 26] nP_X_L_1_7 (sP_X_L_1_7 g ad R1 R2 R3 K T SN SZ F R1_55) (fun H locs hH => ?_)
        refine lv_goto (tgt := 75) hx hb dX5_set_66 (by decide) ?_
        exact j_75 r_54 R1_55 F _ _ ls hf hH (lv_sub hl [] rfl)
    have hf := if_n hf c_47
    by_cases c_57 : x2 = 2
    · have hf := if_p hf c_57
      refine lv_tableIn (tgt := 136) hx hb dX5_set_19 (by rw [c_57]; decide) (by rw [c_57]; decide) (by rw [c_57]; rfl) (by decide) ?_
      exact j_136 R1 F _ _ ls hf hH (lv_sub hl [0] rfl)
    have hf := if_n hf c_57
    by_cases c_58 : x2 = 3
    · have hf := if_p hf c_58
      refine lv_tableIn (tgt := 76) hx hb dX5_set_19 (by rw [c_58]; decide) (by rw [c_58]; decide) (by rw [c_58]; rfl) (by decide) ?_
      refine lv_iload_n hx hb dX5_set_76 rfl (lv_at hl 3 rfl) ?_
      refine lv_iconst (v := 0) hx hb dX5_set_77 (by decide) ?_
      refine lv_sipush (v := 511) hx hb dX5_set_78 (by decide) ?_
      obtain ⟨r_59, hc_60, hf⟩ := bind_inv hf
      refine aftPI (runS C hE hA hH [] rfl rfl (kX5_within l g ad _ x3 (0 : Int32) (511 : Int32) r_59  hc_60) tw_4_14 tw_4_15 tw_1_2 tw_4_16 hdX5_within rfl rfl ⟨Nat.le_of_ble_eq_true rfl, Nat.le_of_ble_eq_true rfl⟩ rfl hl.1 (rest := []) rfl (Nat.le_of_ble_eq_true rfl) dX5_set_81 ⟨Nat.zero_le _, Nat.zero_le _⟩) ?_
      refine lv_if_eq (tgt := 99) hx hb dX5_set_84 (by decide) (fun c_61 => ?_) (fun c_61 => ?_)
      · have hf := if_p hf c_61
        refine lv_aload_n hx hb dX5_set_99 rfl (lv_at hl 0 rfl) ?_
        refine lv_ldc hx hb hown (hT _ tw_4_12) dX5_set_100 ?_
        obtain ⟨r_62, F_63, hc_64, hf⟩ := bind2_inv hf
        refine aftI (runV C hE hA hH [0, 1, 2, 3, 4, 5, 6, 7, 8, 9, 10, 11, 12, 13, 14, 15, 16, 17, 18, 19, 20, 21, 22, 23, 24, 25, 26, 27, 28, 29, 30, 31, 32, 33] nC_X_X_0_33 (sC_X_X_0_33 g ad R1 R2 R3 K T SN SZ F) (kX5_tell l g ad _ R1 R2 R3 K T SN SZ F (-1000000001 : Int32) r_62 F_63  hc_64) tw_4_17 tw_4_18 tw_4_19 tw_1_2 tw_4_20 hdX5_tell 0 rfl rfl rfl rfl ⟨Nat.le_of_ble_eq_true rfl, Nat.le_of_ble_eq_true rfl⟩ rfl hl.1 (rest := []) rfl (Nat.le_of_ble_eq_true rfl) dX5_set_102 ⟨Nat.zero_le _, Nat.zero_le _⟩) hA hH [0, 1, 2, 3, 4, 5, 6, 7, 8, 9, 10, 11, 12, 13, 14, 15, 16, 17, 18, 19, 20, 21, 22, 23, 24, 25, 26, 27, 28, 29, 30, 31, 32, 33] [] (sC_X_X_0_33 g ad R1 R2 R3 K T SN SZ F) (sR_X_X_0_33 g ad R1 R2 R3 K T SN SZ F) nR_X_X_0_33 dj_X_X_0_33 [0, 1, 2, 3, 4, 5, 6, 7, 8, 9, 10, 11, 12, 13, 14, 15, 16, 17, 18, 19, 20, 21, 22, 23, 24, 25, 26, 27, 28, 29, 30, 31, 32, 33] nP_X_X_0_33 (sP_X_X_0_33 g ad R1 R2 R3 K T SN SZ F R1 R2 R3 K T SN SZ F_63) (fun H locs hH => ?_)
        exact j_105 r_62 R1 F_63 _ _ ls hf hH (lv_sub hl [] rfl)
      · have hf := if_n hf c_61
        refine lv_aload_n hx hb dX5_set_87 rfl (lv_at hl 0 rfl) ?_
        refine gf_RX5_10 C hE hH 0 rfl rfl dX5_set_88 ?_
        refine lv_iload_n hx hb dX5_set_91 rfl (lv_at hl 1 rfl) ?_
        refine lv_iload_n hx hb dX5_set_92 rfl (lv_at hl 3 rfl) ?_
        obtain ⟨r_65, R1_66, hc_67, hf⟩ := bind2_inv hf
        refine aftI (runV C hE hA hH [1, 2, 3, 4, 5, 6, 7] nC_X_L_1_7 (sC_X_L_1_7 g ad R1 R2 R3 K T SN SZ F) (kX1_putWords l g (fun k => ad (1 + k)) _ R1 x1 x3 r_65 R1_66  hc_67) tw_12_8 tw_12_9 tw_12_10 tw_1_15 tw_12_11 hdX1_putWords 1 rfl rfl rfl rfl ⟨Nat.le_of_ble_eq_true rfl, Nat.le_of_ble_eq_true rfl⟩ rfl hl.1 (rest := []) rfl (Nat.le_of_ble_eq_true rfl) dX5_set_93 ⟨Nat.zero_le _, Nat.zero_le _⟩) hA hH [1, 2, 3, 4, 5, 6, 7] [0, 8, 9, 10, 11, 12, 13, 14, 15, 16, 17, 18, 19, 20, 21, 22, 23, 24, 25, 26, 27, 28, 29, 30, 31, 32, 33] (sC_X_L_1_7 g ad R1 R2 R3 K T SN SZ F) (sR_X_L_1_7 g ad R1 R2 R3 K T SN SZ F) nR_X_L_1_7 dj_X_L_1_7 [0, 27, 28, 29, 30, 31, 32, 33, 1, 2, 3, 4, 5, 6, 7, 8, 9, 10, 11, 12, 13, 14, 15, 16, 17, 18, 19, 20, 21, 22, 23, 24, 25, 26] nP_X_L_1_7 (sP_X_L_1_7 g ad R1 R2 R3 K T SN SZ F R1_66) (fun H locs hH => ?_)
        refine lv_goto (tgt := 105) hx hb dX5_set_96 (by decide) ?_
        exact j_105 r_65 R1_66 F _ _ ls hf hH (lv_sub hl [] rfl)
    have hf := if_n hf c_58
    by_cases c_68 : x2 = 4
    · have hf := if_p hf c_68
      refine lv_tableIn (tgt := 106) hx hb dX5_set_19 (by rw [c_68]; decide) (by rw [c_68]; decide) (by rw [c_68]; rfl) (by decide) ?_
      refine lv_iload_n hx hb dX5_set_106 rfl (lv_at hl 3 rfl) ?_
      refine lv_iconst (v := 0) hx hb dX5_set_107 (by decide) ?_
      refine lv_sipush (v := 9999) hx hb dX5_set_108 (by decide) ?_
      obtain ⟨r_69, hc_70, hf⟩ := bind_inv hf
      refine aftPI (runS C hE hA hH [] rfl rfl (kX5_within l g ad _ x3 (0 : Int32) (9999 : Int32) r_69  hc_70) tw_4_14 tw_4_15 tw_1_2 tw_4_16 hdX5_within rfl rfl ⟨Nat.le_of_ble_eq_true rfl, Nat.le_of_ble_eq_true rfl⟩ rfl hl.1 (rest := []) rfl (Nat.le_of_ble_eq_true rfl) dX5_set_111 ⟨Nat.zero_le _, Nat.zero_le _⟩) ?_
      refine lv_if_eq (tgt := 129) hx hb dX5_set_114 (by decide) (fun c_71 => ?_) (fun c_71 => ?_)
      · have hf := if_p hf c_71
        refine lv_aload_n hx hb dX5_set_129 rfl (lv_at hl 0 rfl) ?_
        refine lv_ldc hx hb hown (hT _ tw_4_12) dX5_set_130 ?_
        obtain ⟨r_72, F_73, hc_74, hf⟩ := bind2_inv hf
        refine aftI (runV C hE hA hH [0, 1, 2, 3, 4, 5, 6, 7, 8, 9, 10, 11, 12, 13, 14, 15, 16, 17, 18, 19, 20, 21, 22, 23, 24, 25, 26, 27, 28, 29, 30, 31, 32, 33] nC_X_X_0_33 (sC_X_X_0_33 g ad R1 R2 R3 K T SN SZ F) (kX5_tell l g ad _ R1 R2 R3 K T SN SZ F (-1000000001 : Int32) r_72 F_73  hc_74) tw_4_17 tw_4_18 tw_4_19 tw_1_2 tw_4_20 hdX5_tell 0 rfl rfl rfl rfl ⟨Nat.le_of_ble_eq_true rfl, Nat.le_of_ble_eq_true rfl⟩ rfl hl.1 (rest := []) rfl (Nat.le_of_ble_eq_true rfl) dX5_set_132 ⟨Nat.zero_le _, Nat.zero_le _⟩) hA hH [0, 1, 2, 3, 4, 5, 6, 7, 8, 9, 10, 11, 12, 13, 14, 15, 16, 17, 18, 19, 20, 21, 22, 23, 24, 25, 26, 27, 28, 29, 30, 31, 32, 33] [] (sC_X_X_0_33 g ad R1 R2 R3 K T SN SZ F) (sR_X_X_0_33 g ad R1 R2 R3 K T SN SZ F) nR_X_X_0_33 dj_X_X_0_33 [0, 1, 2, 3, 4, 5, 6, 7, 8, 9, 10, 11, 12, 13, 14, 15, 16, 17, 18, 19, 20, 21, 22, 23, 24, 25, 26, 27, 28, 29, 30, 31, 32, 33] nP_X_X_0_33 (sP_X_X_0_33 g ad R1 R2 R3 K T SN SZ F R1 R2 R3 K T SN SZ F_73) (fun H locs hH => ?_)
        exact j_135 r_72 R1 F_73 _ _ ls hf hH (lv_sub hl [] rfl)
      · have hf := if_n hf c_71
        refine lv_aload_n hx hb dX5_set_117 rfl (lv_at hl 0 rfl) ?_
        refine gf_RX5_10 C hE hH 0 rfl rfl dX5_set_118 ?_
        refine lv_iload_n hx hb dX5_set_121 rfl (lv_at hl 1 rfl) ?_
        refine lv_iload_n hx hb dX5_set_122 rfl (lv_at hl 3 rfl) ?_
        obtain ⟨r_75, R1_76, hc_77, hf⟩ := bind2_inv hf
        refine aftI (runV C hE hA hH [1, 2, 3, 4, 5, 6, 7] nC_X_L_1_7 (sC_X_L_1_7 g ad R1 R2 R3 K T SN SZ F) (kX1_putMet l g (fun k => ad (1 + k)) _ R1 x1 x3 r_75 R1_76  hc_77) tw_12_12 tw_12_13 tw_12_14 tw_1_15 tw_12_15 hdX1_putMet 1 rfl rfl rfl rfl ⟨Nat.le_of_ble_eq_true rfl, Nat.le_of_ble_eq_true rfl⟩ rfl hl.1 (rest := []) rfl (Nat.le_of_ble_eq_true rfl) dX5_set_123 ⟨Nat.zero_le _, Nat.zero_le _⟩) hA hH [1, 2, 3, 4, 5, 6, 7] [0, 8, 9, 10, 11, 12, 13, 14, 15, 16, 17, 18, 19, 20, 21, 22, 23, 24, 25, 26, 27, 28, 29, 30, 31, 32, 33] (sC_X_L_1_7 g ad R1 R2 R3 K T SN SZ F) (sR_X_L_1_7 g ad R1 R2 R3 K T SN SZ F) nR_X_L_1_7 dj_X_L_1_7 [0, 27, 28, 29, 30, 31, 32, 33, 1, 2, 3, 4, 5, 6, 7, 8, 9, 10, 11, 12, 13, 14, 15, 16, 17, 18, 19, 20, 21, 22, 23, 24, 25, 26] nP_X_L_1_7 (sP_X_L_1_7 g ad R1 R2 R3 K T SN SZ F R1_76) (fun H locs hH => ?_)
        refine lv_goto (tgt := 135) hx hb dX5_set_126 (by decide) ?_
        exact j_135 r_75 R1_76 F _ _ ls hf hH (lv_sub hl [] rfl)
    have hf := if_n hf c_68
    refine lv_tableOut (tgt := 136) hx hb dX5_set_19 (by have qc_47 := lv_neT c_47 (a := 1) (by decide); have qc_57 := lv_neT c_57 (a := 2) (by decide); have qc_58 := lv_neT c_58 (a := 3) (by decide); have qc_68 := lv_neT c_68 (a := 4) (by decide); omega) (by decide) ?_
    exact j_136 R1 F _ _ ls hf hH (lv_sub hl [0] rfl)
  · have hf := if_p hf c_46
    refine lv_aload_n hx hb dX5_set_11 rfl (lv_at hl 0 rfl) ?_
    refine lv_ldc hx hb hown (hT _ tw_4_12) dX5_set_12 ?_
    obtain ⟨r_78, F_79, hc_80, hf⟩ := bind2_inv hf
    refine aftI (runV C hE hA hH [0, 1, 2, 3, 4, 5, 6, 7, 8, 9, 10, 11, 12, 13, 14, 15, 16, 17, 18, 19, 20, 21, 22, 23, 24, 25, 26, 27, 28, 29, 30, 31, 32, 33] nC_X_X_0_33 (sC_X_X_0_33 g ad R1 R2 R3 K T SN SZ F) (kX5_tell l g ad _ R1 R2 R3 K T SN SZ F (-1000000001 : Int32) r_78 F_79  hc_80) tw_4_17 tw_4_18 tw_4_19 tw_1_2 tw_4_20 hdX5_tell 0 rfl rfl rfl rfl ⟨Nat.le_of_ble_eq_true rfl, Nat.le_of_ble_eq_true rfl⟩ rfl hl.1 (rest := []) rfl (Nat.le_of_ble_eq_true rfl) dX5_set_14 ⟨Nat.zero_le _, Nat.zero_le _⟩) hA hH [0, 1, 2, 3, 4, 5, 6, 7, 8, 9, 10, 11, 12, 13, 14, 15, 16, 17, 18, 19, 20, 21, 22, 23, 24, 25, 26, 27, 28, 29, 30, 31, 32, 33] [] (sC_X_X_0_33 g ad R1 R2 R3 K T SN SZ F) (sR_X_X_0_33 g ad R1 R2 R3 K T SN SZ F) nR_X_X_0_33 dj_X_X_0_33 [0, 1, 2, 3, 4, 5, 6, 7, 8, 9, 10, 11, 12, 13, 14, 15, 16, 17, 18, 19, 20, 21, 22, 23, 24, 25, 26, 27, 28, 29, 30, 31, 32, 33] nP_X_X_0_33 (sP_X_X_0_33 g ad R1 R2 R3 K T SN SZ F R1 R2 R3 K T SN SZ F_79) (fun H locs hH => ?_)
    have hf := Option.some.inj hf
    obtain ⟨h1, hf⟩ := Prod.mk.inj hf
    obtain ⟨h2, h3⟩ := Prod.mk.inj hf
    subst h1
    subst h2
    subst h3
    exact retI C hH rfl dX5_set_17
def fX5_turn_c18  (R1 : M2) (R2 : M2) (R3 : M2) (K : Int32) (T : M2) (SN : J2) (SZ : M2) (F : M1) : Option (Int32 × M2 × M1) := bind2 (fX5_tell (-1000000001 : Int32) R1 R2 R3 K T SN SZ F) (fun (r_14 : Int32) (F_15 : M1) => some (r_14, R1, F_15))
def fX5_turn (x1 : Int32) (x2 : Int32) (R1 : M2) (R2 : M2) (R3 : M2) (K : Int32) (T : M2) (SN : J2) (SZ : M2) (F : M1) : Option (Int32 × M2 × M1) := (fX1_hasKeeper x1 R1).bind (fun (r_17 : Int32) => (if r_17 = 0 then fX5_turn_c18  R1 R2 R3 K T SN SZ F else (fX5_isKind x2).bind (fun (r_20 : Int32) => (if r_20 = 0 then fX5_turn_c18  R1 R2 R3 K T SN SZ F else grd (inb x1 8) (letb (R1 2 x1.toNatClampNeg) (fun v_24 : Int32 => grd (inb x1 8) (letb (st2 R1 2 (upd (R1 2) x1.toNatClampNeg x2)) (fun R1_26 : M2 => some (v_24, R1_26, F)))))))))
def rmX5_turn : Room := { frames := 2, cells := 0, slots := 0, locals := 44 }
theorem hdX5_turn : yX5_turn.cls = yX5_turn.cls ∧ yX5_turn.cls ≠ "java/lang/invoke/MethodHandle" ∧ yX5_turn.cls ≠ "java/lang/invoke/VarHandle" ∧ (parseMethodDescriptor yX5_turn.desc).map (fun d => d.parameters.length) = some 2 := by decide +kernel
set_option maxHeartbeats 4000000 in
set_option maxRecDepth 100000 in
theorem kX5_turn (l : Launch) (g : Gl) (ad : Nat → Nat) (sz : Nat) (R1 : M2) (R2 : M2) (R3 : M2) (K : Int32) (T : M2) (SN : J2) (SZ : M2) (F : M1) (x1 : Int32) (x2 : Int32) (r : Int32) (R1' : M2) (F' : M1)  (hf : fX5_turn x1 x2 R1 R2 R3 K T SN SZ F = some (r, R1', F')) : MetI l yX5_turn (Cond.code yX5_turn cX5_turn 4 (some .int) :: wsL_law) rmX5_turn [.ref (ad 0), .int x1, .int x2] g (wX g ad R1 R2 R3 K T SN SZ F) sz r (wX g ad R1' R2 R3 K T SN SZ F') := by
  refine openI (by decide +kernel) (Nat.le_of_ble_eq_true rfl) ?_
  intro p e s m args below meth c A C hE hA hH ls hl
  have hl : lv_has ls 4 [(0, .ref (ad 0)), (1, .int x1), (2, .int x2)] := hl
  have C : Cx p s m args meth c cX5_turn 4 (some .int) RX5 := C
  obtain ⟨hx, hb, hml, hown, hT, hr, hlk⟩ := id C
  rw [fX5_turn] at hf
  have j_18 : ∀ (R1 : M2) (F : M1) (H : Heap) (locs : List Loc) (ls : Array Slot), fX5_turn_c18  R1 R2 R3 K T SN SZ F = some (r, R1', F') → Hp g A s H locs (wX g ad R1 R2 R3 K T SN SZ F) → lv_has ls 4 [(0, .ref (ad 0))] → W p l e rmX5_turn s m args below meth c H locs 0 0 (QI g A below args s r (wX g ad R1' R2 R3 K T SN SZ F')) (F0 m 18 ls []) := by
    intro R1 F H locs  ls hf hH hl
    rw [fX5_turn_c18] at hf
    refine lv_aload_n hx hb dX5_turn_18 rfl (lv_at hl 0 rfl) ?_
    refine lv_ldc hx hb hown (hT _ tw_4_12) dX5_turn_19 ?_
    obtain ⟨r_14, F_15, hc_16, hf⟩ := bind2_inv hf
    refine aftI (runV C hE hA hH [0, 1, 2, 3, 4, 5, 6, 7, 8, 9, 10, 11, 12, 13, 14, 15, 16, 17, 18, 19, 20, 21, 22, 23, 24, 25, 26, 27, 28, 29, 30, 31, 32, 33] nC_X_X_0_33 (sC_X_X_0_33 g ad R1 R2 R3 K T SN SZ F) (kX5_tell l g ad _ R1 R2 R3 K T SN SZ F (-1000000001 : Int32) r_14 F_15  hc_16) tw_4_17 tw_4_18 tw_4_19 tw_1_2 tw_4_20 hdX5_tell 0 rfl rfl rfl rfl ⟨Nat.le_of_ble_eq_true rfl, Nat.le_of_ble_eq_true rfl⟩ rfl hl.1 (rest := []) rfl (Nat.le_of_ble_eq_true rfl) dX5_turn_21 ⟨Nat.zero_le _, Nat.zero_le _⟩) hA hH [0, 1, 2, 3, 4, 5, 6, 7, 8, 9, 10, 11, 12, 13, 14, 15, 16, 17, 18, 19, 20, 21, 22, 23, 24, 25, 26, 27, 28, 29, 30, 31, 32, 33] [] (sC_X_X_0_33 g ad R1 R2 R3 K T SN SZ F) (sR_X_X_0_33 g ad R1 R2 R3 K T SN SZ F) nR_X_X_0_33 dj_X_X_0_33 [0, 1, 2, 3, 4, 5, 6, 7, 8, 9, 10, 11, 12, 13, 14, 15, 16, 17, 18, 19, 20, 21, 22, 23, 24, 25, 26, 27, 28, 29, 30, 31, 32, 33] nP_X_X_0_33 (sP_X_X_0_33 g ad R1 R2 R3 K T SN SZ F R1 R2 R3 K T SN SZ F_15) (fun H locs hH => ?_)
    have hf := Option.some.inj hf
    obtain ⟨h1, hf⟩ := Prod.mk.inj hf
    obtain ⟨h2, h3⟩ := Prod.mk.inj hf
    subst h1
    subst h2
    subst h3
    exact retI C hH rfl dX5_turn_24
  refine lv_aload_n hx hb dX5_turn_0 rfl (lv_at hl 0 rfl) ?_
  refine gf_RX5_10 C hE hH 0 rfl rfl dX5_turn_1 ?_
  refine lv_iload_n hx hb dX5_turn_4 rfl (lv_at hl 1 rfl) ?_
  obtain ⟨r_17, hc_18, hf⟩ := bind_inv hf
  refine aftPI (runV C hE hA hH [1, 2, 3, 4, 5, 6, 7] nC_X_L_1_7 (sC_X_L_1_7 g ad R1 R2 R3 K T SN SZ F) (kX1_hasKeeper l g (fun k => ad (1 + k)) _ R1 x1 r_17  hc_18) tw_9_6 tw_9_7 tw_9_8 tw_1_15 tw_9_9 hdX1_hasKeeper 1 rfl rfl rfl rfl ⟨Nat.le_of_ble_eq_true rfl, Nat.le_of_ble_eq_true rfl⟩ rfl hl.1 (rest := []) rfl (Nat.le_of_ble_eq_true rfl) dX5_turn_5 ⟨Nat.zero_le _, Nat.zero_le _⟩) ?_
  refine lv_if_eq (tgt := 18) hx hb dX5_turn_8 (by decide) (fun c_19 => ?_) (fun c_19 => ?_)
  · have hf := if_p hf c_19
    exact j_18 R1 F _ _ ls hf hH (lv_sub hl [0] rfl)
  · have hf := if_n hf c_19
    refine lv_iload_n hx hb dX5_turn_11 rfl (lv_at hl 2 rfl) ?_
    obtain ⟨r_20, hc_21, hf⟩ := bind_inv hf
    refine aftPI (runS C hE hA hH [] rfl rfl (kX5_isKind l g ad _ x2 r_20  hc_21) tw_7_17 tw_7_18 tw_1_2 tw_7_19 hdX5_isKind rfl rfl ⟨Nat.le_of_ble_eq_true rfl, Nat.le_of_ble_eq_true rfl⟩ rfl hl.1 (rest := []) rfl (Nat.le_of_ble_eq_true rfl) dX5_turn_12 ⟨Nat.zero_le _, Nat.zero_le _⟩) ?_
    refine lv_if_ne (tgt := 25) hx hb dX5_turn_15 (by decide) (fun c_22 => ?_) (fun c_22 => ?_)
    · have hf := if_n hf c_22
      refine lv_aload_n hx hb dX5_turn_25 rfl (lv_at hl 0 rfl) ?_
      refine gf_RX5_10 C hE hH 0 rfl rfl dX5_turn_26 ?_
      refine gf_RX5_93 C hE hH 1 rfl rfl dX5_turn_29 ?_
      refine lv_iload_n hx hb dX5_turn_32 rfl (lv_at hl 1 rfl) ?_
      obtain ⟨hi_23, hf⟩ := grd_inv hf
      refine xiald C hE hH 3 rfl hi_23 dX5_turn_33 ?_
      refine lv_topi (fun v_24 ev_24 => ?_)
      have hf := letb_at hf v_24 ev_24
      refine lv_istore_n (lv' := [(3, .int v_24), (0, .ref (ad 0)), (1, .int x1), (2, .int x2)]) hx hb dX5_turn_34 rfl hl (by decide) rfl (fun ls hl => ?_)
      refine lv_aload_n hx hb dX5_turn_35 rfl (lv_at hl 1 rfl) ?_
      refine gf_RX5_10 C hE hH 0 rfl rfl dX5_turn_36 ?_
      refine gf_RX5_93 C hE hH 1 rfl rfl dX5_turn_39 ?_
      refine lv_iload_n hx hb dX5_turn_42 rfl (lv_at hl 2 rfl) ?_
      refine lv_iload_n hx hb dX5_turn_43 rfl (lv_at hl 3 rfl) ?_
      obtain ⟨hi_25, hf⟩ := grd_inv hf
      refine xiast C hE hH 3 rfl hi_25 (fun q : M2 => wX g ad q R2 R3 K T SN SZ F) (st2 R1 2 (upd (R1 2) x1.toNatClampNeg x2)) rfl dX5_turn_44 (fun R1_26 eR1_26 H locs hH => ?_)
      have hf := letb_at hf R1_26 eR1_26
      refine lv_iload_n hx hb dX5_turn_45 rfl (lv_at hl 0 rfl) ?_
      have hf := Option.some.inj hf
      obtain ⟨h1, hf⟩ := Prod.mk.inj hf
      obtain ⟨h2, h3⟩ := Prod.mk.inj hf
      subst h1
      subst h2
      subst h3
      exact retI C hH rfl dX5_turn_46
    · have hf := if_p hf c_22
      exact j_18 R1 F _ _ ls hf hH (lv_sub hl [0] rfl)
def fX5_as_c18  (R1 : M2) (R2 : M2) (R3 : M2) (K : Int32) (T : M2) (SN : J2) (SZ : M2) (F : M1) : Option (Int32 × M1) := bind2 (fX5_tell (-1000000001 : Int32) R1 R2 R3 K T SN SZ F) (fun (r_18 : Int32) (F_19 : M1) => some (r_18, F_19))
def fX5_as (x1 : Int32) (x2 : Int32) (R1 : M2) (R2 : M2) (R3 : M2) (K : Int32) (T : M2) (SN : J2) (SZ : M2) (F : M1) : Option (Int32 × M1) := (fX1_hasKeeper x1 R1).bind (fun (r_21 : Int32) => (if r_21 = 0 then fX5_as_c18  R1 R2 R3 K T SN SZ F else (fX5_isKind x2).bind (fun (r_24 : Int32) => (if r_24 = 0 then fX5_as_c18  R1 R2 R3 K T SN SZ F else grd (inb x1 8) ((fX0_isOrIsUnder (R1 2 x1.toNatClampNeg) x2).bind (fun (r_28 : Int32) => (if r_28 = 0 then bind2 (fX5_tell (-1000000003 : Int32) R1 R2 R3 K T SN SZ F) (fun (r_32 : Int32) (F_33 : M1) => some (r_32, F_33)) else grd (inb x1 8) (some (R1 5 x1.toNatClampNeg, F)))))))))
def rmX5_as : Room := { frames := 2, cells := 0, slots := 0, locals := 44 }
theorem hdX5_as : yX5_as.cls = yX5_as.cls ∧ yX5_as.cls ≠ "java/lang/invoke/MethodHandle" ∧ yX5_as.cls ≠ "java/lang/invoke/VarHandle" ∧ (parseMethodDescriptor yX5_as.desc).map (fun d => d.parameters.length) = some 2 := by decide +kernel
set_option maxHeartbeats 4000000 in
set_option maxRecDepth 100000 in
theorem kX5_as (l : Launch) (g : Gl) (ad : Nat → Nat) (sz : Nat) (R1 : M2) (R2 : M2) (R3 : M2) (K : Int32) (T : M2) (SN : J2) (SZ : M2) (F : M1) (x1 : Int32) (x2 : Int32) (r : Int32) (F' : M1)  (hf : fX5_as x1 x2 R1 R2 R3 K T SN SZ F = some (r, F')) : MetI l yX5_as (Cond.code yX5_as cX5_as 3 (some .int) :: wsL_law) rmX5_as [.ref (ad 0), .int x1, .int x2] g (wX g ad R1 R2 R3 K T SN SZ F) sz r (wX g ad R1 R2 R3 K T SN SZ F') := by
  refine openI (by decide +kernel) (Nat.le_of_ble_eq_true rfl) ?_
  intro p e s m args below meth c A C hE hA hH ls hl
  have hl : lv_has ls 3 [(0, .ref (ad 0)), (1, .int x1), (2, .int x2)] := hl
  have C : Cx p s m args meth c cX5_as 3 (some .int) RX5 := C
  obtain ⟨hx, hb, hml, hown, hT, hr, hlk⟩ := id C
  rw [fX5_as] at hf
  have j_18 : ∀ (F : M1) (H : Heap) (locs : List Loc) (ls : Array Slot), fX5_as_c18  R1 R2 R3 K T SN SZ F = some (r, F') → Hp g A s H locs (wX g ad R1 R2 R3 K T SN SZ F) → lv_has ls 3 [(0, .ref (ad 0))] → W p l e rmX5_as s m args below meth c H locs 0 0 (QI g A below args s r (wX g ad R1 R2 R3 K T SN SZ F')) (F0 m 18 ls []) := by
    intro F H locs  ls hf hH hl
    rw [fX5_as_c18] at hf
    refine lv_aload_n hx hb dX5_as_18 rfl (lv_at hl 0 rfl) ?_
    refine lv_ldc hx hb hown (hT _ tw_4_12) dX5_as_19 ?_
    obtain ⟨r_18, F_19, hc_20, hf⟩ := bind2_inv hf
    refine aftI (runV C hE hA hH [0, 1, 2, 3, 4, 5, 6, 7, 8, 9, 10, 11, 12, 13, 14, 15, 16, 17, 18, 19, 20, 21, 22, 23, 24, 25, 26, 27, 28, 29, 30, 31, 32, 33] nC_X_X_0_33 (sC_X_X_0_33 g ad R1 R2 R3 K T SN SZ F) (kX5_tell l g ad _ R1 R2 R3 K T SN SZ F (-1000000001 : Int32) r_18 F_19  hc_20) tw_4_17 tw_4_18 tw_4_19 tw_1_2 tw_4_20 hdX5_tell 0 rfl rfl rfl rfl ⟨Nat.le_of_ble_eq_true rfl, Nat.le_of_ble_eq_true rfl⟩ rfl hl.1 (rest := []) rfl (Nat.le_of_ble_eq_true rfl) dX5_as_21 ⟨Nat.zero_le _, Nat.zero_le _⟩) hA hH [0, 1, 2, 3, 4, 5, 6, 7, 8, 9, 10, 11, 12, 13, 14, 15, 16, 17, 18, 19, 20, 21, 22, 23, 24, 25, 26, 27, 28, 29, 30, 31, 32, 33] [] (sC_X_X_0_33 g ad R1 R2 R3 K T SN SZ F) (sR_X_X_0_33 g ad R1 R2 R3 K T SN SZ F) nR_X_X_0_33 dj_X_X_0_33 [0, 1, 2, 3, 4, 5, 6, 7, 8, 9, 10, 11, 12, 13, 14, 15, 16, 17, 18, 19, 20, 21, 22, 23, 24, 25, 26, 27, 28, 29, 30, 31, 32, 33] nP_X_X_0_33 (sP_X_X_0_33 g ad R1 R2 R3 K T SN SZ F R1 R2 R3 K T SN SZ F_19) (fun H locs hH => ?_)
    have hf := Option.some.inj hf
    obtain ⟨h1, h2⟩ := Prod.mk.inj hf
    subst h1
    subst h2
    exact retI C hH rfl dX5_as_24
  refine lv_aload_n hx hb dX5_as_0 rfl (lv_at hl 0 rfl) ?_
  refine gf_RX5_10 C hE hH 0 rfl rfl dX5_as_1 ?_
  refine lv_iload_n hx hb dX5_as_4 rfl (lv_at hl 1 rfl) ?_
  obtain ⟨r_21, hc_22, hf⟩ := bind_inv hf
  refine aftPI (runV C hE hA hH [1, 2, 3, 4, 5, 6, 7] nC_X_L_1_7 (sC_X_L_1_7 g ad R1 R2 R3 K T SN SZ F) (kX1_hasKeeper l g (fun k => ad (1 + k)) _ R1 x1 r_21  hc_22) tw_9_6 tw_9_7 tw_9_8 tw_1_15 tw_9_9 hdX1_hasKeeper 1 rfl rfl rfl rfl ⟨Nat.le_of_ble_eq_true rfl, Nat.le_of_ble_eq_true rfl⟩ rfl hl.1 (rest := []) rfl (Nat.le_of_ble_eq_true rfl) dX5_as_5 ⟨Nat.zero_le _, Nat.zero_le _⟩) ?_
  refine lv_if_eq (tgt := 18) hx hb dX5_as_8 (by decide) (fun c_23 => ?_) (fun c_23 => ?_)
  · have hf := if_p hf c_23
    exact j_18 F _ _ ls hf hH (lv_sub hl [0] rfl)
  · have hf := if_n hf c_23
    refine lv_iload_n hx hb dX5_as_11 rfl (lv_at hl 2 rfl) ?_
    obtain ⟨r_24, hc_25, hf⟩ := bind_inv hf
    refine aftPI (runS C hE hA hH [] rfl rfl (kX5_isKind l g ad _ x2 r_24  hc_25) tw_7_17 tw_7_18 tw_1_2 tw_7_19 hdX5_isKind rfl rfl ⟨Nat.le_of_ble_eq_true rfl, Nat.le_of_ble_eq_true rfl⟩ rfl hl.1 (rest := []) rfl (Nat.le_of_ble_eq_true rfl) dX5_as_12 ⟨Nat.zero_le _, Nat.zero_le _⟩) ?_
    refine lv_if_ne (tgt := 25) hx hb dX5_as_15 (by decide) (fun c_26 => ?_) (fun c_26 => ?_)
    · have hf := if_n hf c_26
      refine lv_aload_n hx hb dX5_as_25 rfl (lv_at hl 0 rfl) ?_
      refine gf_RX5_10 C hE hH 0 rfl rfl dX5_as_26 ?_
      refine gf_RX5_93 C hE hH 1 rfl rfl dX5_as_29 ?_
      refine lv_iload_n hx hb dX5_as_32 rfl (lv_at hl 1 rfl) ?_
      obtain ⟨hi_27, hf⟩ := grd_inv hf
      refine xiald C hE hH 3 rfl hi_27 dX5_as_33 ?_
      refine lv_iload_n hx hb dX5_as_34 rfl (lv_at hl 2 rfl) ?_
      obtain ⟨r_28, hc_29, hf⟩ := bind_inv hf
      refine aftPI (runS C hE hA hH [] rfl rfl (kX0_isOrIsUnder l g ad _ (R1 2 x1.toNatClampNeg) x2 r_28  hc_29) tw_13_13 tw_9_19 tw_9_20 tw_9_21 hdX0_isOrIsUnder rfl rfl ⟨Nat.le_of_ble_eq_true rfl, Nat.le_of_ble_eq_true rfl⟩ rfl hl.1 (rest := []) rfl (Nat.le_of_ble_eq_true rfl) dX5_as_35 ⟨Nat.zero_le _, Nat.zero_le _⟩) ?_
      refine lv_if_ne (tgt := 48) hx hb dX5_as_38 (by decide) (fun c_30 => ?_) (fun c_30 => ?_)
      · have hf := if_n hf c_30
        refine lv_aload_n hx hb dX5_as_48 rfl (lv_at hl 0 rfl) ?_
        refine gf_RX5_10 C hE hH 0 rfl rfl dX5_as_49 ?_
        refine gf_RX5_102 C hE hH 1 rfl rfl dX5_as_52 ?_
        refine lv_iload_n hx hb dX5_as_55 rfl (lv_at hl 1 rfl) ?_
        obtain ⟨hi_31, hf⟩ := grd_inv hf
        refine xiald C hE hH 6 rfl hi_31 dX5_as_56 ?_
        have hf := Option.some.inj hf
        obtain ⟨h1, h2⟩ := Prod.mk.inj hf
        subst h1
        subst h2
        exact retI C hH rfl dX5_as_57
      · have hf := if_p hf c_30
        refine lv_aload_n hx hb dX5_as_41 rfl (lv_at hl 0 rfl) ?_
        refine lv_ldc hx hb hown (hT _ tw_13_12) dX5_as_42 ?_
        obtain ⟨r_32, F_33, hc_34, hf⟩ := bind2_inv hf
        refine aftI (runV C hE hA hH [0, 1, 2, 3, 4, 5, 6, 7, 8, 9, 10, 11, 12, 13, 14, 15, 16, 17, 18, 19, 20, 21, 22, 23, 24, 25, 26, 27, 28, 29, 30, 31, 32, 33] nC_X_X_0_33 (sC_X_X_0_33 g ad R1 R2 R3 K T SN SZ F) (kX5_tell l g ad _ R1 R2 R3 K T SN SZ F (-1000000003 : Int32) r_32 F_33  hc_34) tw_4_17 tw_4_18 tw_4_19 tw_1_2 tw_4_20 hdX5_tell 0 rfl rfl rfl rfl ⟨Nat.le_of_ble_eq_true rfl, Nat.le_of_ble_eq_true rfl⟩ rfl hl.1 (rest := []) rfl (Nat.le_of_ble_eq_true rfl) dX5_as_44 ⟨Nat.zero_le _, Nat.zero_le _⟩) hA hH [0, 1, 2, 3, 4, 5, 6, 7, 8, 9, 10, 11, 12, 13, 14, 15, 16, 17, 18, 19, 20, 21, 22, 23, 24, 25, 26, 27, 28, 29, 30, 31, 32, 33] [] (sC_X_X_0_33 g ad R1 R2 R3 K T SN SZ F) (sR_X_X_0_33 g ad R1 R2 R3 K T SN SZ F) nR_X_X_0_33 dj_X_X_0_33 [0, 1, 2, 3, 4, 5, 6, 7, 8, 9, 10, 11, 12, 13, 14, 15, 16, 17, 18, 19, 20, 21, 22, 23, 24, 25, 26, 27, 28, 29, 30, 31, 32, 33] nP_X_X_0_33 (sP_X_X_0_33 g ad R1 R2 R3 K T SN SZ F R1 R2 R3 K T SN SZ F_33) (fun H locs hH => ?_)
        have hf := Option.some.inj hf
        obtain ⟨h1, h2⟩ := Prod.mk.inj hf
        subst h1
        subst h2
        exact retI C hH rfl dX5_as_47
    · have hf := if_p hf c_26
      exact j_18 F _ _ ls hf hH (lv_sub hl [0] rfl)
def fX5_days (x1 : Int32) (R1 : M2) (R2 : M2) (R3 : M2) (K : Int32) (T : M2) (SN : J2) (SZ : M2) (F : M1) : Option (Int32 × M2 × M1) := (fX5_within x1 (1 : Int32) (100 : Int32)).bind (fun (r_15 : Int32) => (if r_15 = 0 then bind2 (fX5_tell (-1000000001 : Int32) R1 R2 R3 K T SN SZ F) (fun (r_26 : Int32) (F_27 : M1) => some (r_26, R1, F_27)) else (if ((R1 0 0) + x1) ≤ (9999 : Int32) then (fX1_passDays x1 R1).bind (fun (R1_19 : M2) => (fX1_setOfOn R1_19).bind (fun (r_21 : Int32) => some (r_21, R1_19, F))) else bind2 (fX5_tell (-1000000005 : Int32) R1 R2 R3 K T SN SZ F) (fun (r_23 : Int32) (F_24 : M1) => some (r_23, R1, F_24)))))
def rmX5_days : Room := { frames := 6, cells := 0, slots := 0, locals := 137 }
theorem hdX5_days : yX5_days.cls = yX5_days.cls ∧ yX5_days.cls ≠ "java/lang/invoke/MethodHandle" ∧ yX5_days.cls ≠ "java/lang/invoke/VarHandle" ∧ (parseMethodDescriptor yX5_days.desc).map (fun d => d.parameters.length) = some 1 := by decide +kernel
set_option maxHeartbeats 4000000 in
set_option maxRecDepth 100000 in
theorem kX5_days (l : Launch) (g : Gl) (ad : Nat → Nat) (sz : Nat) (R1 : M2) (R2 : M2) (R3 : M2) (K : Int32) (T : M2) (SN : J2) (SZ : M2) (F : M1) (x1 : Int32) (r : Int32) (R1' : M2) (F' : M1)  (hf : fX5_days x1 R1 R2 R3 K T SN SZ F = some (r, R1', F')) : MetI l yX5_days (Cond.code yX5_days cX5_days 2 (some .int) :: wsL_law) rmX5_days [.ref (ad 0), .int x1] g (wX g ad R1 R2 R3 K T SN SZ F) sz r (wX g ad R1' R2 R3 K T SN SZ F') := by
  refine openI (by decide +kernel) (Nat.le_of_ble_eq_true rfl) ?_
  intro p e s m args below meth c A C hE hA hH ls hl
  have hl : lv_has ls 2 [(0, .ref (ad 0)), (1, .int x1)] := hl
  have C : Cx p s m args meth c cX5_days 2 (some .int) RX5 := C
  obtain ⟨hx, hb, hml, hown, hT, hr, hlk⟩ := id C
  rw [fX5_days] at hf
  refine lv_iload_n hx hb dX5_days_0 rfl (lv_at hl 1 rfl) ?_
  refine lv_iconst (v := 1) hx hb dX5_days_1 (by decide) ?_
  refine lv_bipush (v := 100) hx hb dX5_days_2 (by decide) ?_
  obtain ⟨r_15, hc_16, hf⟩ := bind_inv hf
  refine aftPI (runS C hE hA hH [] rfl rfl (kX5_within l g ad _ x1 (1 : Int32) (100 : Int32) r_15  hc_16) tw_4_14 tw_4_15 tw_1_2 tw_4_16 hdX5_within rfl rfl ⟨Nat.le_of_ble_eq_true rfl, Nat.le_of_ble_eq_true rfl⟩ rfl hl.1 (rest := []) rfl (Nat.le_of_ble_eq_true rfl) dX5_days_4 ⟨Nat.zero_le _, Nat.zero_le _⟩) ?_
  refine lv_if_ne (tgt := 17) hx hb dX5_days_7 (by decide) (fun c_17 => ?_) (fun c_17 => ?_)
  · have hf := if_n hf c_17
    refine lv_aload_n hx hb dX5_days_17 rfl (lv_at hl 0 rfl) ?_
    refine gf_RX5_10 C hE hH 0 rfl rfl dX5_days_18 ?_
    refine gf_RX5_134 C hE hH 1 rfl rfl dX5_days_21 ?_
    refine lv_iload_n hx hb dX5_days_24 rfl (lv_at hl 1 rfl) ?_
    refine lv_iadd hx hb dX5_days_25 ?_
    refine lv_sipush (v := 9999) hx hb dX5_days_26 (by decide) ?_
    refine lv_icmp_le (tgt := 39) hx hb dX5_days_29 (by decide) (fun c_18 => ?_) (fun c_18 => ?_)
    · have hf := if_p hf c_18
      refine lv_aload_n hx hb dX5_days_39 rfl (lv_at hl 0 rfl) ?_
      refine gf_RX5_10 C hE hH 0 rfl rfl dX5_days_40 ?_
      refine lv_iload_n hx hb dX5_days_43 rfl (lv_at hl 1 rfl) ?_
      obtain ⟨R1_19, hc_20, hf⟩ := bind_inv hf
      refine aftV (runV C hE hA hH [1, 2, 3, 4, 5, 6, 7] nC_X_L_1_7 (sC_X_L_1_7 g ad R1 R2 R3 K T SN SZ F) (kX1_passDays l g (fun k => ad (1 + k)) _ R1 x1 R1_19  hc_20) tw_14_1 tw_14_2 tw_14_3 tw_1_15 tw_14_4 hdX1_passDays 1 rfl rfl rfl rfl ⟨Nat.le_of_ble_eq_true rfl, Nat.le_of_ble_eq_true rfl⟩ rfl hl.1 (rest := []) rfl (Nat.le_of_ble_eq_true rfl) dX5_days_44 ⟨Nat.zero_le _, Nat.zero_le _⟩) hA hH [1, 2, 3, 4, 5, 6, 7] [0, 8, 9, 10, 11, 12, 13, 14, 15, 16, 17, 18, 19, 20, 21, 22, 23, 24, 25, 26, 27, 28, 29, 30, 31, 32, 33] (sC_X_L_1_7 g ad R1 R2 R3 K T SN SZ F) (sR_X_L_1_7 g ad R1 R2 R3 K T SN SZ F) nR_X_L_1_7 dj_X_L_1_7 [0, 27, 28, 29, 30, 31, 32, 33, 1, 2, 3, 4, 5, 6, 7, 8, 9, 10, 11, 12, 13, 14, 15, 16, 17, 18, 19, 20, 21, 22, 23, 24, 25, 26] nP_X_L_1_7 (sP_X_L_1_7 g ad R1 R2 R3 K T SN SZ F R1_19) (fun H locs hH => ?_)
      refine lv_aload_n hx hb dX5_days_47 rfl (lv_at hl 0 rfl) ?_
      refine gf_RX5_10 C hE hH 0 rfl rfl dX5_days_48 ?_
      obtain ⟨r_21, hc_22, hf⟩ := bind_inv hf
      refine aftPI (runV C hE hA hH [1, 2, 3, 4, 5, 6, 7] nC_X_L_1_7 (sC_X_L_1_7 g ad R1_19 R2 R3 K T SN SZ F) (kX1_setOfOn l g (fun k => ad (1 + k)) _ R1_19 r_21  hc_22) tw_16_0 tw_16_1 tw_16_2 tw_1_15 tw_16_3 hdX1_setOfOn 1 rfl rfl rfl rfl ⟨Nat.le_of_ble_eq_true rfl, Nat.le_of_ble_eq_true rfl⟩ rfl hl.1 (rest := []) rfl (Nat.le_of_ble_eq_true rfl) dX5_days_51 ⟨Nat.zero_le _, Nat.zero_le _⟩) ?_
      have hf := Option.some.inj hf
      obtain ⟨h1, hf⟩ := Prod.mk.inj hf
      obtain ⟨h2, h3⟩ := Prod.mk.inj hf
      subst h1
      subst h2
      subst h3
      exact retI C hH rfl dX5_days_54
    · have hf := if_n hf c_18
      refine lv_aload_n hx hb dX5_days_32 rfl (lv_at hl 0 rfl) ?_
      refine lv_ldc hx hb hown (hT _ tw_14_0) dX5_days_33 ?_
      obtain ⟨r_23, F_24, hc_25, hf⟩ := bind2_inv hf
      refine aftI (runV C hE hA hH [0, 1, 2, 3, 4, 5, 6, 7, 8, 9, 10, 11, 12, 13, 14, 15, 16, 17, 18, 19, 20, 21, 22, 23, 24, 25, 26, 27, 28, 29, 30, 31, 32, 33] nC_X_X_0_33 (sC_X_X_0_33 g ad R1 R2 R3 K T SN SZ F) (kX5_tell l g ad _ R1 R2 R3 K T SN SZ F (-1000000005 : Int32) r_23 F_24  hc_25) tw_4_17 tw_4_18 tw_4_19 tw_1_2 tw_4_20 hdX5_tell 0 rfl rfl rfl rfl ⟨Nat.le_of_ble_eq_true rfl, Nat.le_of_ble_eq_true rfl⟩ rfl hl.1 (rest := []) rfl (Nat.le_of_ble_eq_true rfl) dX5_days_35 ⟨Nat.zero_le _, Nat.zero_le _⟩) hA hH [0, 1, 2, 3, 4, 5, 6, 7, 8, 9, 10, 11, 12, 13, 14, 15, 16, 17, 18, 19, 20, 21, 22, 23, 24, 25, 26, 27, 28, 29, 30, 31, 32, 33] [] (sC_X_X_0_33 g ad R1 R2 R3 K T SN SZ F) (sR_X_X_0_33 g ad R1 R2 R3 K T SN SZ F) nR_X_X_0_33 dj_X_X_0_33 [0, 1, 2, 3, 4, 5, 6, 7, 8, 9, 10, 11, 12, 13, 14, 15, 16, 17, 18, 19, 20, 21, 22, 23, 24, 25, 26, 27, 28, 29, 30, 31, 32, 33] nP_X_X_0_33 (sP_X_X_0_33 g ad R1 R2 R3 K T SN SZ F R1 R2 R3 K T SN SZ F_24) (fun H locs hH => ?_)
      have hf := Option.some.inj hf
      obtain ⟨h1, hf⟩ := Prod.mk.inj hf
      obtain ⟨h2, h3⟩ := Prod.mk.inj hf
      subst h1
      subst h2
      subst h3
      exact retI C hH rfl dX5_days_38
  · have hf := if_p hf c_17
    refine lv_aload_n hx hb dX5_days_10 rfl (lv_at hl 0 rfl) ?_
    refine lv_ldc hx hb hown (hT _ tw_4_12) dX5_days_11 ?_
    obtain ⟨r_26, F_27, hc_28, hf⟩ := bind2_inv hf
    refine aftI (runV C hE hA hH [0, 1, 2, 3, 4, 5, 6, 7, 8, 9, 10, 11, 12, 13, 14, 15, 16, 17, 18, 19, 20, 21, 22, 23, 24, 25, 26, 27, 28, 29, 30, 31, 32, 33] nC_X_X_0_33 (sC_X_X_0_33 g ad R1 R2 R3 K T SN SZ F) (kX5_tell l g ad _ R1 R2 R3 K T SN SZ F (-1000000001 : Int32) r_26 F_27  hc_28) tw_4_17 tw_4_18 tw_4_19 tw_1_2 tw_4_20 hdX5_tell 0 rfl rfl rfl rfl ⟨Nat.le_of_ble_eq_true rfl, Nat.le_of_ble_eq_true rfl⟩ rfl hl.1 (rest := []) rfl (Nat.le_of_ble_eq_true rfl) dX5_days_13 ⟨Nat.zero_le _, Nat.zero_le _⟩) hA hH [0, 1, 2, 3, 4, 5, 6, 7, 8, 9, 10, 11, 12, 13, 14, 15, 16, 17, 18, 19, 20, 21, 22, 23, 24, 25, 26, 27, 28, 29, 30, 31, 32, 33] [] (sC_X_X_0_33 g ad R1 R2 R3 K T SN SZ F) (sR_X_X_0_33 g ad R1 R2 R3 K T SN SZ F) nR_X_X_0_33 dj_X_X_0_33 [0, 1, 2, 3, 4, 5, 6, 7, 8, 9, 10, 11, 12, 13, 14, 15, 16, 17, 18, 19, 20, 21, 22, 23, 24, 25, 26, 27, 28, 29, 30, 31, 32, 33] nP_X_X_0_33 (sP_X_X_0_33 g ad R1 R2 R3 K T SN SZ F R1 R2 R3 K T SN SZ F_27) (fun H locs hH => ?_)
    have hf := Option.some.inj hf
    obtain ⟨h1, hf⟩ := Prod.mk.inj hf
    obtain ⟨h2, h3⟩ := Prod.mk.inj hf
    subst h1
    subst h2
    subst h3
    exact retI C hH rfl dX5_days_16
def fX5_now (x1 : Int32) (R1 : M2) (R2 : M2) (R3 : M2) (K : Int32) (T : M2) (SN : J2) (SZ : M2) (F : M1) : Option (Int32 × M1) := (if x1 = 0 then some (R1 0 0, F) else (if x1 = 1 then some (R1 0 1, F) else (if x1 = 2 then some (R1 0 2, F) else (if x1 = 3 then some (R1 0 3, F) else (if x1 = 4 then some (R1 0 4, F) else (if x1 = 5 then some (R1 0 5, F) else (if x1 = 6 then (fX1_setOfOn R1).bind (fun (r_23 : Int32) => some (r_23, F)) else (if x1 = 7 then (fX1_usesTogether R1).bind (fun (r_26 : Int32) => some (r_26, F)) else bind2 (fX5_tell (-1000000001 : Int32) R1 R2 R3 K T SN SZ F) (fun (r_28 : Int32) (F_29 : M1) => some (r_28, F_29))))))))))
def rmX5_now : Room := { frames := 4, cells := 0, slots := 0, locals := 88 }
theorem hdX5_now : yX5_now.cls = yX5_now.cls ∧ yX5_now.cls ≠ "java/lang/invoke/MethodHandle" ∧ yX5_now.cls ≠ "java/lang/invoke/VarHandle" ∧ (parseMethodDescriptor yX5_now.desc).map (fun d => d.parameters.length) = some 1 := by decide +kernel
set_option maxHeartbeats 4000000 in
set_option maxRecDepth 100000 in
theorem kX5_now (l : Launch) (g : Gl) (ad : Nat → Nat) (sz : Nat) (R1 : M2) (R2 : M2) (R3 : M2) (K : Int32) (T : M2) (SN : J2) (SZ : M2) (F : M1) (x1 : Int32) (r : Int32) (F' : M1)  (hf : fX5_now x1 R1 R2 R3 K T SN SZ F = some (r, F')) : MetI l yX5_now (Cond.code yX5_now cX5_now 2 (some .int) :: wsL_law) rmX5_now [.ref (ad 0), .int x1] g (wX g ad R1 R2 R3 K T SN SZ F) sz r (wX g ad R1 R2 R3 K T SN SZ F') := by
  refine openI (by decide +kernel) (Nat.le_of_ble_eq_true rfl) ?_
  intro p e s m args below meth c A C hE hA hH ls hl
  have hl : lv_has ls 2 [(0, .ref (ad 0)), (1, .int x1)] := hl
  have C : Cx p s m args meth c cX5_now 2 (some .int) RX5 := C
  obtain ⟨hx, hb, hml, hown, hT, hr, hlk⟩ := id C
  rw [fX5_now] at hf
  refine lv_iload_n hx hb dX5_now_0 rfl (lv_at hl 1 rfl) ?_
  by_cases c_16 : x1 = 0
  · have hf := if_p hf c_16
    refine lv_tableIn (tgt := 48) hx hb dX5_now_1 (by rw [c_16]; decide) (by rw [c_16]; decide) (by rw [c_16]; rfl) (by decide) ?_
    refine lv_aload_n hx hb dX5_now_48 rfl (lv_at hl 0 rfl) ?_
    refine gf_RX5_10 C hE hH 0 rfl rfl dX5_now_49 ?_
    refine gf_RX5_134 C hE hH 1 rfl rfl dX5_now_52 ?_
    have hf := Option.some.inj hf
    obtain ⟨h1, h2⟩ := Prod.mk.inj hf
    subst h1
    subst h2
    exact retI C hH rfl dX5_now_55
  have hf := if_n hf c_16
  by_cases c_17 : x1 = 1
  · have hf := if_p hf c_17
    refine lv_tableIn (tgt := 56) hx hb dX5_now_1 (by rw [c_17]; decide) (by rw [c_17]; decide) (by rw [c_17]; rfl) (by decide) ?_
    refine lv_aload_n hx hb dX5_now_56 rfl (lv_at hl 0 rfl) ?_
    refine gf_RX5_10 C hE hH 0 rfl rfl dX5_now_57 ?_
    refine gf_RX5_147 C hE hH 1 rfl rfl dX5_now_60 ?_
    have hf := Option.some.inj hf
    obtain ⟨h1, h2⟩ := Prod.mk.inj hf
    subst h1
    subst h2
    exact retI C hH rfl dX5_now_63
  have hf := if_n hf c_17
  by_cases c_18 : x1 = 2
  · have hf := if_p hf c_18
    refine lv_tableIn (tgt := 64) hx hb dX5_now_1 (by rw [c_18]; decide) (by rw [c_18]; decide) (by rw [c_18]; rfl) (by decide) ?_
    refine lv_aload_n hx hb dX5_now_64 rfl (lv_at hl 0 rfl) ?_
    refine gf_RX5_10 C hE hH 0 rfl rfl dX5_now_65 ?_
    refine gf_RX5_150 C hE hH 1 rfl rfl dX5_now_68 ?_
    have hf := Option.some.inj hf
    obtain ⟨h1, h2⟩ := Prod.mk.inj hf
    subst h1
    subst h2
    exact retI C hH rfl dX5_now_71
  have hf := if_n hf c_18
  by_cases c_19 : x1 = 3
  · have hf := if_p hf c_19
    refine lv_tableIn (tgt := 72) hx hb dX5_now_1 (by rw [c_19]; decide) (by rw [c_19]; decide) (by rw [c_19]; rfl) (by decide) ?_
    refine lv_aload_n hx hb dX5_now_72 rfl (lv_at hl 0 rfl) ?_
    refine gf_RX5_10 C hE hH 0 rfl rfl dX5_now_73 ?_
    refine gf_RX5_153 C hE hH 1 rfl rfl dX5_now_76 ?_
    have hf := Option.some.inj hf
    obtain ⟨h1, h2⟩ := Prod.mk.inj hf
    subst h1
    subst h2
    exact retI C hH rfl dX5_now_79
  have hf := if_n hf c_19
  by_cases c_20 : x1 = 4
  · have hf := if_p hf c_20
    refine lv_tableIn (tgt := 80) hx hb dX5_now_1 (by rw [c_20]; decide) (by rw [c_20]; decide) (by rw [c_20]; rfl) (by decide) ?_
    refine lv_aload_n hx hb dX5_now_80 rfl (lv_at hl 0 rfl) ?_
    refine gf_RX5_10 C hE hH 0 rfl rfl dX5_now_81 ?_
    refine gf_RX5_156 C hE hH 1 rfl rfl dX5_now_84 ?_
    have hf := Option.some.inj hf
    obtain ⟨h1, h2⟩ := Prod.mk.inj hf
    subst h1
    subst h2
    exact retI C hH rfl dX5_now_87
  have hf := if_n hf c_20
  by_cases c_21 : x1 = 5
  · have hf := if_p hf c_21
    refine lv_tableIn (tgt := 88) hx hb dX5_now_1 (by rw [c_21]; decide) (by rw [c_21]; decide) (by rw [c_21]; rfl) (by decide) ?_
    refine lv_aload_n hx hb dX5_now_88 rfl (lv_at hl 0 rfl) ?_
    refine gf_RX5_10 C hE hH 0 rfl rfl dX5_now_89 ?_
    refine gf_RX5_159 C hE hH 1 rfl rfl dX5_now_92 ?_
    have hf := Option.some.inj hf
    obtain ⟨h1, h2⟩ := Prod.mk.inj hf
    subst h1
    subst h2
    exact retI C hH rfl dX5_now_95
  have hf := if_n hf c_21
  by_cases c_22 : x1 = 6
  · have hf := if_p hf c_22
    refine lv_tableIn (tgt := 96) hx hb dX5_now_1 (by rw [c_22]; decide) (by rw [c_22]; decide) (by rw [c_22]; rfl) (by decide) ?_
    refine lv_aload_n hx hb dX5_now_96 rfl (lv_at hl 0 rfl) ?_
    refine gf_RX5_10 C hE hH 0 rfl rfl dX5_now_97 ?_
    obtain ⟨r_23, hc_24, hf⟩ := bind_inv hf
    refine aftPI (runV C hE hA hH [1, 2, 3, 4, 5, 6, 7] nC_X_L_1_7 (sC_X_L_1_7 g ad R1 R2 R3 K T SN SZ F) (kX1_setOfOn l g (fun k => ad (1 + k)) _ R1 r_23  hc_24) tw_16_0 tw_16_1 tw_16_2 tw_1_15 tw_16_3 hdX1_setOfOn 1 rfl rfl rfl rfl ⟨Nat.le_of_ble_eq_true rfl, Nat.le_of_ble_eq_true rfl⟩ rfl hl.1 (rest := []) rfl (Nat.le_of_ble_eq_true rfl) dX5_now_100 ⟨Nat.zero_le _, Nat.zero_le _⟩) ?_
    have hf := Option.some.inj hf
    obtain ⟨h1, h2⟩ := Prod.mk.inj hf
    subst h1
    subst h2
    exact retI C hH rfl dX5_now_103
  have hf := if_n hf c_22
  by_cases c_25 : x1 = 7
  · have hf := if_p hf c_25
    refine lv_tableIn (tgt := 104) hx hb dX5_now_1 (by rw [c_25]; decide) (by rw [c_25]; decide) (by rw [c_25]; rfl) (by decide) ?_
    refine lv_aload_n hx hb dX5_now_104 rfl (lv_at hl 0 rfl) ?_
    refine gf_RX5_10 C hE hH 0 rfl rfl dX5_now_105 ?_
    obtain ⟨r_26, hc_27, hf⟩ := bind_inv hf
    refine aftPI (runV C hE hA hH [1, 2, 3, 4, 5, 6, 7] nC_X_L_1_7 (sC_X_L_1_7 g ad R1 R2 R3 K T SN SZ F) (kX1_usesTogether l g (fun k => ad (1 + k)) _ R1 r_26  hc_27) tw_18_5 tw_14_10 tw_14_11 tw_1_15 tw_14_12 hdX1_usesTogether 1 rfl rfl rfl rfl ⟨Nat.le_of_ble_eq_true rfl, Nat.le_of_ble_eq_true rfl⟩ rfl hl.1 (rest := []) rfl (Nat.le_of_ble_eq_true rfl) dX5_now_108 ⟨Nat.zero_le _, Nat.zero_le _⟩) ?_
    have hf := Option.some.inj hf
    obtain ⟨h1, h2⟩ := Prod.mk.inj hf
    subst h1
    subst h2
    exact retI C hH rfl dX5_now_111
  have hf := if_n hf c_25
  refine lv_tableOut (tgt := 112) hx hb dX5_now_1 (by have qc_16 := lv_neT c_16 (a := 0) (by decide); have qc_17 := lv_neT c_17 (a := 1) (by decide); have qc_18 := lv_neT c_18 (a := 2) (by decide); have qc_19 := lv_neT c_19 (a := 3) (by decide); have qc_20 := lv_neT c_20 (a := 4) (by decide); have qc_21 := lv_neT c_21 (a := 5) (by decide); have qc_22 := lv_neT c_22 (a := 6) (by decide); have qc_25 := lv_neT c_25 (a := 7) (by decide); omega) (by decide) ?_
  refine lv_aload_n hx hb dX5_now_112 rfl (lv_at hl 0 rfl) ?_
  refine lv_ldc hx hb hown (hT _ tw_4_12) dX5_now_113 ?_
  obtain ⟨r_28, F_29, hc_30, hf⟩ := bind2_inv hf
  refine aftI (runV C hE hA hH [0, 1, 2, 3, 4, 5, 6, 7, 8, 9, 10, 11, 12, 13, 14, 15, 16, 17, 18, 19, 20, 21, 22, 23, 24, 25, 26, 27, 28, 29, 30, 31, 32, 33] nC_X_X_0_33 (sC_X_X_0_33 g ad R1 R2 R3 K T SN SZ F) (kX5_tell l g ad _ R1 R2 R3 K T SN SZ F (-1000000001 : Int32) r_28 F_29  hc_30) tw_4_17 tw_4_18 tw_4_19 tw_1_2 tw_4_20 hdX5_tell 0 rfl rfl rfl rfl ⟨Nat.le_of_ble_eq_true rfl, Nat.le_of_ble_eq_true rfl⟩ rfl hl.1 (rest := []) rfl (Nat.le_of_ble_eq_true rfl) dX5_now_115 ⟨Nat.zero_le _, Nat.zero_le _⟩) hA hH [0, 1, 2, 3, 4, 5, 6, 7, 8, 9, 10, 11, 12, 13, 14, 15, 16, 17, 18, 19, 20, 21, 22, 23, 24, 25, 26, 27, 28, 29, 30, 31, 32, 33] [] (sC_X_X_0_33 g ad R1 R2 R3 K T SN SZ F) (sR_X_X_0_33 g ad R1 R2 R3 K T SN SZ F) nR_X_X_0_33 dj_X_X_0_33 [0, 1, 2, 3, 4, 5, 6, 7, 8, 9, 10, 11, 12, 13, 14, 15, 16, 17, 18, 19, 20, 21, 22, 23, 24, 25, 26, 27, 28, 29, 30, 31, 32, 33] nP_X_X_0_33 (sP_X_X_0_33 g ad R1 R2 R3 K T SN SZ F R1 R2 R3 K T SN SZ F_29) (fun H locs hH => ?_)
  have hf := Option.some.inj hf
  obtain ⟨h1, h2⟩ := Prod.mk.inj hf
  subst h1
  subst h2
  exact retI C hH rfl dX5_now_118
def fX5_on_c31  (R1 : M2) (R2 : M2) (R3 : M2) (K : Int32) (T : M2) (SN : J2) (SZ : M2) (F : M1) : Option (Int32 × M2 × M1) := bind2 (fX5_tell (-1000000001 : Int32) R1 R2 R3 K T SN SZ F) (fun (r_22 : Int32) (F_23 : M1) => some (r_22, R2, F_23))
def fX5_on (x1 : Int32) (x2 : Int32) (x3 : Int32) (R1 : M2) (R2 : M2) (R3 : M2) (K : Int32) (T : M2) (SN : J2) (SZ : M2) (F : M1) : Option (Int32 × M2 × M1) := (fX1_hasKeeper x1 R1).bind (fun (r_25 : Int32) => (if r_25 = 0 then fX5_on_c31  R1 R2 R3 K T SN SZ F else (fX5_within x2 (0 : Int32) (200 : Int32)).bind (fun (r_28 : Int32) => (if r_28 = 0 then fX5_on_c31  R1 R2 R3 K T SN SZ F else (fX5_within x3 (0 : Int32) (2 : Int32)).bind (fun (r_31 : Int32) => (if r_31 = 0 then fX5_on_c31  R1 R2 R3 K T SN SZ F else (fX5_startTrial R1 R2 R3 K T SN SZ F).bind (fun (R2_34 : M2) => (fX1_passDays x2 R2_34).bind (fun (R2_36 : M2) => (if x3 = 0 then grd (inb x1 8) (some (R2_36 3 x1.toNatClampNeg, R2_36, F)) else (if x3 = 1 then grd (inb x1 8) (some (R2_36 5 x1.toNatClampNeg, R2_36, F)) else grd (inb x1 8) (some (R2_36 6 x1.toNatClampNeg, R2_36, F))))))))))))
def rmX5_on : Room := { frames := 6, cells := 0, slots := 0, locals := 137 }
theorem hdX5_on : yX5_on.cls = yX5_on.cls ∧ yX5_on.cls ≠ "java/lang/invoke/MethodHandle" ∧ yX5_on.cls ≠ "java/lang/invoke/VarHandle" ∧ (parseMethodDescriptor yX5_on.desc).map (fun d => d.parameters.length) = some 3 := by decide +kernel
set_option maxHeartbeats 4000000 in
set_option maxRecDepth 100000 in
theorem kX5_on (l : Launch) (g : Gl) (ad : Nat → Nat) (sz : Nat) (R1 : M2) (R2 : M2) (R3 : M2) (K : Int32) (T : M2) (SN : J2) (SZ : M2) (F : M1) (x1 : Int32) (x2 : Int32) (x3 : Int32) (r : Int32) (R2' : M2) (F' : M1)  (hf : fX5_on x1 x2 x3 R1 R2 R3 K T SN SZ F = some (r, R2', F')) : MetI l yX5_on (Cond.code yX5_on cX5_on 4 (some .int) :: wsL_law) rmX5_on [.ref (ad 0), .int x1, .int x2, .int x3] g (wX g ad R1 R2 R3 K T SN SZ F) sz r (wX g ad R1 R2' R3 K T SN SZ F') := by
  refine openI (by decide +kernel) (Nat.le_of_ble_eq_true rfl) ?_
  intro p e s m args below meth c A C hE hA hH ls hl
  have hl : lv_has ls 4 [(0, .ref (ad 0)), (1, .int x1), (2, .int x2), (3, .int x3)] := hl
  have C : Cx p s m args meth c cX5_on 4 (some .int) RX5 := C
  obtain ⟨hx, hb, hml, hown, hT, hr, hlk⟩ := id C
  rw [fX5_on] at hf
  have j_31 : ∀ (R2 : M2) (F : M1) (H : Heap) (locs : List Loc) (ls : Array Slot), fX5_on_c31  R1 R2 R3 K T SN SZ F = some (r, R2', F') → Hp g A s H locs (wX g ad R1 R2 R3 K T SN SZ F) → lv_has ls 4 [(0, .ref (ad 0))] → W p l e rmX5_on s m args below meth c H locs 0 0 (QI g A below args s r (wX g ad R1 R2' R3 K T SN SZ F')) (F0 m 31 ls []) := by
    intro R2 F H locs  ls hf hH hl
    rw [fX5_on_c31] at hf
    refine lv_aload_n hx hb dX5_on_31 rfl (lv_at hl 0 rfl) ?_
    refine lv_ldc hx hb hown (hT _ tw_4_12) dX5_on_32 ?_
    obtain ⟨r_22, F_23, hc_24, hf⟩ := bind2_inv hf
    refine aftI (runV C hE hA hH [0, 1, 2, 3, 4, 5, 6, 7, 8, 9, 10, 11, 12, 13, 14, 15, 16, 17, 18, 19, 20, 21, 22, 23, 24, 25, 26, 27, 28, 29, 30, 31, 32, 33] nC_X_X_0_33 (sC_X_X_0_33 g ad R1 R2 R3 K T SN SZ F) (kX5_tell l g ad _ R1 R2 R3 K T SN SZ F (-1000000001 : Int32) r_22 F_23  hc_24) tw_4_17 tw_4_18 tw_4_19 tw_1_2 tw_4_20 hdX5_tell 0 rfl rfl rfl rfl ⟨Nat.le_of_ble_eq_true rfl, Nat.le_of_ble_eq_true rfl⟩ rfl hl.1 (rest := []) rfl (Nat.le_of_ble_eq_true rfl) dX5_on_34 ⟨Nat.zero_le _, Nat.zero_le _⟩) hA hH [0, 1, 2, 3, 4, 5, 6, 7, 8, 9, 10, 11, 12, 13, 14, 15, 16, 17, 18, 19, 20, 21, 22, 23, 24, 25, 26, 27, 28, 29, 30, 31, 32, 33] [] (sC_X_X_0_33 g ad R1 R2 R3 K T SN SZ F) (sR_X_X_0_33 g ad R1 R2 R3 K T SN SZ F) nR_X_X_0_33 dj_X_X_0_33 [0, 1, 2, 3, 4, 5, 6, 7, 8, 9, 10, 11, 12, 13, 14, 15, 16, 17, 18, 19, 20, 21, 22, 23, 24, 25, 26, 27, 28, 29, 30, 31, 32, 33] nP_X_X_0_33 (sP_X_X_0_33 g ad R1 R2 R3 K T SN SZ F R1 R2 R3 K T SN SZ F_23) (fun H locs hH => ?_)
    have hf := Option.some.inj hf
    obtain ⟨h1, hf⟩ := Prod.mk.inj hf
    obtain ⟨h2, h3⟩ := Prod.mk.inj hf
    subst h1
    subst h2
    subst h3
    exact retI C hH rfl dX5_on_37
  refine lv_aload_n hx hb dX5_on_0 rfl (lv_at hl 0 rfl) ?_
  refine gf_RX5_10 C hE hH 0 rfl rfl dX5_on_1 ?_
  refine lv_iload_n hx hb dX5_on_4 rfl (lv_at hl 1 rfl) ?_
  obtain ⟨r_25, hc_26, hf⟩ := bind_inv hf
  refine aftPI (runV C hE hA hH [1, 2, 3, 4, 5, 6, 7] nC_X_L_1_7 (sC_X_L_1_7 g ad R1 R2 R3 K T SN SZ F) (kX1_hasKeeper l g (fun k => ad (1 + k)) _ R1 x1 r_25  hc_26) tw_9_6 tw_9_7 tw_9_8 tw_1_15 tw_9_9 hdX1_hasKeeper 1 rfl rfl rfl rfl ⟨Nat.le_of_ble_eq_true rfl, Nat.le_of_ble_eq_true rfl⟩ rfl hl.1 (rest := []) rfl (Nat.le_of_ble_eq_true rfl) dX5_on_5 ⟨Nat.zero_le _, Nat.zero_le _⟩) ?_
  refine lv_if_eq (tgt := 31) hx hb dX5_on_8 (by decide) (fun c_27 => ?_) (fun c_27 => ?_)
  · have hf := if_p hf c_27
    exact j_31 R2 F _ _ ls hf hH (lv_sub hl [0] rfl)
  · have hf := if_n hf c_27
    refine lv_iload_n hx hb dX5_on_11 rfl (lv_at hl 2 rfl) ?_
    refine lv_iconst (v := 0) hx hb dX5_on_12 (by decide) ?_
    refine lv_sipush (v := 200) hx hb dX5_on_13 (by decide) ?_
    obtain ⟨r_28, hc_29, hf⟩ := bind_inv hf
    refine aftPI (runS C hE hA hH [] rfl rfl (kX5_within l g ad _ x2 (0 : Int32) (200 : Int32) r_28  hc_29) tw_4_14 tw_4_15 tw_1_2 tw_4_16 hdX5_within rfl rfl ⟨Nat.le_of_ble_eq_true rfl, Nat.le_of_ble_eq_true rfl⟩ rfl hl.1 (rest := []) rfl (Nat.le_of_ble_eq_true rfl) dX5_on_16 ⟨Nat.zero_le _, Nat.zero_le _⟩) ?_
    refine lv_if_eq (tgt := 31) hx hb dX5_on_19 (by decide) (fun c_30 => ?_) (fun c_30 => ?_)
    · have hf := if_p hf c_30
      exact j_31 R2 F _ _ ls hf hH (lv_sub hl [0] rfl)
    · have hf := if_n hf c_30
      refine lv_iload_n hx hb dX5_on_22 rfl (lv_at hl 3 rfl) ?_
      refine lv_iconst (v := 0) hx hb dX5_on_23 (by decide) ?_
      refine lv_iconst (v := 2) hx hb dX5_on_24 (by decide) ?_
      obtain ⟨r_31, hc_32, hf⟩ := bind_inv hf
      refine aftPI (runS C hE hA hH [] rfl rfl (kX5_within l g ad _ x3 (0 : Int32) (2 : Int32) r_31  hc_32) tw_4_14 tw_4_15 tw_1_2 tw_4_16 hdX5_within rfl rfl ⟨Nat.le_of_ble_eq_true rfl, Nat.le_of_ble_eq_true rfl⟩ rfl hl.1 (rest := []) rfl (Nat.le_of_ble_eq_true rfl) dX5_on_25 ⟨Nat.zero_le _, Nat.zero_le _⟩) ?_
      refine lv_if_ne (tgt := 38) hx hb dX5_on_28 (by decide) (fun c_33 => ?_) (fun c_33 => ?_)
      · have hf := if_n hf c_33
        refine lv_aload_n hx hb dX5_on_38 rfl (lv_at hl 0 rfl) ?_
        obtain ⟨R2_34, hc_35, hf⟩ := bind_inv hf
        refine aftV (runV C hE hA hH [0, 1, 2, 3, 4, 5, 6, 7, 8, 9, 10, 11, 12, 13, 14, 15, 16, 17, 18, 19, 20, 21, 22, 23, 24, 25, 26, 27, 28, 29, 30, 31, 32, 33] nC_X_X_0_33 (sC_X_X_0_33 g ad R1 R2 R3 K T SN SZ F) (kX5_startTrial l g ad _ R1 R2 R3 K T SN SZ F R2_34  hc_35) tw_18_14 tw_18_15 tw_18_16 tw_1_2 tw_18_17 hdX5_startTrial 0 rfl rfl rfl rfl ⟨Nat.le_of_ble_eq_true rfl, Nat.le_of_ble_eq_true rfl⟩ rfl hl.1 (rest := []) rfl (Nat.le_of_ble_eq_true rfl) dX5_on_39 ⟨Nat.zero_le _, Nat.zero_le _⟩) hA hH [0, 1, 2, 3, 4, 5, 6, 7, 8, 9, 10, 11, 12, 13, 14, 15, 16, 17, 18, 19, 20, 21, 22, 23, 24, 25, 26, 27, 28, 29, 30, 31, 32, 33] [] (sC_X_X_0_33 g ad R1 R2 R3 K T SN SZ F) (sR_X_X_0_33 g ad R1 R2 R3 K T SN SZ F) nR_X_X_0_33 dj_X_X_0_33 [0, 1, 2, 3, 4, 5, 6, 7, 8, 9, 10, 11, 12, 13, 14, 15, 16, 17, 18, 19, 20, 21, 22, 23, 24, 25, 26, 27, 28, 29, 30, 31, 32, 33] nP_X_X_0_33 (sP_X_X_0_33 g ad R1 R2 R3 K T SN SZ F R1 R2_34 R3 K T SN SZ F) (fun H locs hH => ?_)
        refine lv_aload_n hx hb dX5_on_42 rfl (lv_at hl 0 rfl) ?_
        refine gf_RX5_16 C hE hH 0 rfl rfl dX5_on_43 ?_
        refine lv_iload_n hx hb dX5_on_46 rfl (lv_at hl 2 rfl) ?_
        obtain ⟨R2_36, hc_37, hf⟩ := bind_inv hf
        refine aftV (runV C hE hA hH [8, 9, 10, 11, 12, 13, 14] nC_X_L_8_14 (sC_X_L_8_14 g ad R1 R2_34 R3 K T SN SZ F) (kX1_passDays l g (fun k => ad (8 + k)) _ R2_34 x2 R2_36  hc_37) tw_14_1 tw_14_2 tw_14_3 tw_1_15 tw_14_4 hdX1_passDays 8 rfl rfl rfl rfl ⟨Nat.le_of_ble_eq_true rfl, Nat.le_of_ble_eq_true rfl⟩ rfl hl.1 (rest := []) rfl (Nat.le_of_ble_eq_true rfl) dX5_on_47 ⟨Nat.zero_le _, Nat.zero_le _⟩) hA hH [8, 9, 10, 11, 12, 13, 14] [0, 1, 2, 3, 4, 5, 6, 7, 15, 16, 17, 18, 19, 20, 21, 22, 23, 24, 25, 26, 27, 28, 29, 30, 31, 32, 33] (sC_X_L_8_14 g ad R1 R2_34 R3 K T SN SZ F) (sR_X_L_8_14 g ad R1 R2_34 R3 K T SN SZ F) nR_X_L_8_14 dj_X_L_8_14 [0, 1, 2, 3, 4, 5, 6, 7, 27, 28, 29, 30, 31, 32, 33, 8, 9, 10, 11, 12, 13, 14, 15, 16, 17, 18, 19, 20, 21, 22, 23, 24, 25, 26] nP_X_L_8_14 (sP_X_L_8_14 g ad R1 R2_34 R3 K T SN SZ F R2_36) (fun H locs hH => ?_)
        refine lv_iload_n hx hb dX5_on_50 rfl (lv_at hl 3 rfl) ?_
        by_cases c_38 : x3 = 0
        · have hf := if_p hf c_38
          refine lv_lookup (tgt := 76) (off := 25) hx hb dX5_on_51 (by decide) (by rw [c_38]; try rfl) (by decide) ?_
          refine lv_aload_n hx hb dX5_on_76 rfl (lv_at hl 0 rfl) ?_
          refine gf_RX5_16 C hE hH 0 rfl rfl dX5_on_77 ?_
          refine gf_RX5_96 C hE hH 8 rfl rfl dX5_on_80 ?_
          refine lv_iload_n hx hb dX5_on_83 rfl (lv_at hl 1 rfl) ?_
          obtain ⟨hi_39, hf⟩ := grd_inv hf
          refine xiald C hE hH 11 rfl hi_39 dX5_on_84 ?_
          have hf := Option.some.inj hf
          obtain ⟨h1, hf⟩ := Prod.mk.inj hf
          obtain ⟨h2, h3⟩ := Prod.mk.inj hf
          subst h1
          subst h2
          subst h3
          exact retI C hH rfl dX5_on_85
        have hf := if_n hf c_38
        by_cases c_40 : x3 = 1
        · have hf := if_p hf c_40
          refine lv_lookup (tgt := 86) (off := 35) hx hb dX5_on_51 (by decide) (by rw [c_40]; try rfl) (by decide) ?_
          refine lv_aload_n hx hb dX5_on_86 rfl (lv_at hl 0 rfl) ?_
          refine gf_RX5_16 C hE hH 0 rfl rfl dX5_on_87 ?_
          refine gf_RX5_102 C hE hH 8 rfl rfl dX5_on_90 ?_
          refine lv_iload_n hx hb dX5_on_93 rfl (lv_at hl 1 rfl) ?_
          obtain ⟨hi_41, hf⟩ := grd_inv hf
          refine xiald C hE hH 13 rfl hi_41 dX5_on_94 ?_
          have hf := Option.some.inj hf
          obtain ⟨h1, hf⟩ := Prod.mk.inj hf
          obtain ⟨h2, h3⟩ := Prod.mk.inj hf
          subst h1
          subst h2
          subst h3
          exact retI C hH rfl dX5_on_95
        have hf := if_n hf c_40
        refine lv_lookup (tgt := 96) (off := 45) hx hb dX5_on_51 (by decide) (by rw [lv_osw c_38 (by decide), lv_osw c_40 (by decide)]; try rfl) (by decide) ?_
        refine lv_aload_n hx hb dX5_on_96 rfl (lv_at hl 0 rfl) ?_
        refine gf_RX5_16 C hE hH 0 rfl rfl dX5_on_97 ?_
        refine gf_RX5_105 C hE hH 8 rfl rfl dX5_on_100 ?_
        refine lv_iload_n hx hb dX5_on_103 rfl (lv_at hl 1 rfl) ?_
        obtain ⟨hi_42, hf⟩ := grd_inv hf
        refine xiald C hE hH 14 rfl hi_42 dX5_on_104 ?_
        have hf := Option.some.inj hf
        obtain ⟨h1, hf⟩ := Prod.mk.inj hf
        obtain ⟨h2, h3⟩ := Prod.mk.inj hf
        subst h1
        subst h2
        subst h3
        exact retI C hH rfl dX5_on_105
      · have hf := if_p hf c_33
        exact j_31 R2 F _ _ ls hf hH (lv_sub hl [0] rfl)
def fX5_oil (x1 : Int32) (R1 : M2) (R2 : M2) (R3 : M2) (K : Int32) (T : M2) (SN : J2) (SZ : M2) (F : M1) : Option (Int32 × M2 × M1) := (fX5_within x1 (0 : Int32) (200 : Int32)).bind (fun (r_11 : Int32) => (if r_11 = 0 then bind2 (fX5_tell (-1000000001 : Int32) R1 R2 R3 K T SN SZ F) (fun (r_18 : Int32) (F_19 : M1) => some (r_18, R2, F_19)) else (fX5_startTrial R1 R2 R3 K T SN SZ F).bind (fun (R2_14 : M2) => (fX1_passDays x1 R2_14).bind (fun (R2_16 : M2) => some (R2_16 0 2, R2_16, F)))))
def rmX5_oil : Room := { frames := 6, cells := 0, slots := 0, locals := 137 }
theorem hdX5_oil : yX5_oil.cls = yX5_oil.cls ∧ yX5_oil.cls ≠ "java/lang/invoke/MethodHandle" ∧ yX5_oil.cls ≠ "java/lang/invoke/VarHandle" ∧ (parseMethodDescriptor yX5_oil.desc).map (fun d => d.parameters.length) = some 1 := by decide +kernel
set_option maxHeartbeats 4000000 in
set_option maxRecDepth 100000 in
theorem kX5_oil (l : Launch) (g : Gl) (ad : Nat → Nat) (sz : Nat) (R1 : M2) (R2 : M2) (R3 : M2) (K : Int32) (T : M2) (SN : J2) (SZ : M2) (F : M1) (x1 : Int32) (r : Int32) (R2' : M2) (F' : M1)  (hf : fX5_oil x1 R1 R2 R3 K T SN SZ F = some (r, R2', F')) : MetI l yX5_oil (Cond.code yX5_oil cX5_oil 2 (some .int) :: wsL_law) rmX5_oil [.ref (ad 0), .int x1] g (wX g ad R1 R2 R3 K T SN SZ F) sz r (wX g ad R1 R2' R3 K T SN SZ F') := by
  refine openI (by decide +kernel) (Nat.le_of_ble_eq_true rfl) ?_
  intro p e s m args below meth c A C hE hA hH ls hl
  have hl : lv_has ls 2 [(0, .ref (ad 0)), (1, .int x1)] := hl
  have C : Cx p s m args meth c cX5_oil 2 (some .int) RX5 := C
  obtain ⟨hx, hb, hml, hown, hT, hr, hlk⟩ := id C
  rw [fX5_oil] at hf
  refine lv_iload_n hx hb dX5_oil_0 rfl (lv_at hl 1 rfl) ?_
  refine lv_iconst (v := 0) hx hb dX5_oil_1 (by decide) ?_
  refine lv_sipush (v := 200) hx hb dX5_oil_2 (by decide) ?_
  obtain ⟨r_11, hc_12, hf⟩ := bind_inv hf
  refine aftPI (runS C hE hA hH [] rfl rfl (kX5_within l g ad _ x1 (0 : Int32) (200 : Int32) r_11  hc_12) tw_4_14 tw_4_15 tw_1_2 tw_4_16 hdX5_within rfl rfl ⟨Nat.le_of_ble_eq_true rfl, Nat.le_of_ble_eq_true rfl⟩ rfl hl.1 (rest := []) rfl (Nat.le_of_ble_eq_true rfl) dX5_oil_5 ⟨Nat.zero_le _, Nat.zero_le _⟩) ?_
  refine lv_if_ne (tgt := 18) hx hb dX5_oil_8 (by decide) (fun c_13 => ?_) (fun c_13 => ?_)
  · have hf := if_n hf c_13
    refine lv_aload_n hx hb dX5_oil_18 rfl (lv_at hl 0 rfl) ?_
    obtain ⟨R2_14, hc_15, hf⟩ := bind_inv hf
    refine aftV (runV C hE hA hH [0, 1, 2, 3, 4, 5, 6, 7, 8, 9, 10, 11, 12, 13, 14, 15, 16, 17, 18, 19, 20, 21, 22, 23, 24, 25, 26, 27, 28, 29, 30, 31, 32, 33] nC_X_X_0_33 (sC_X_X_0_33 g ad R1 R2 R3 K T SN SZ F) (kX5_startTrial l g ad _ R1 R2 R3 K T SN SZ F R2_14  hc_15) tw_18_14 tw_18_15 tw_18_16 tw_1_2 tw_18_17 hdX5_startTrial 0 rfl rfl rfl rfl ⟨Nat.le_of_ble_eq_true rfl, Nat.le_of_ble_eq_true rfl⟩ rfl hl.1 (rest := []) rfl (Nat.le_of_ble_eq_true rfl) dX5_oil_19 ⟨Nat.zero_le _, Nat.zero_le _⟩) hA hH [0, 1, 2, 3, 4, 5, 6, 7, 8, 9, 10, 11, 12, 13, 14, 15, 16, 17, 18, 19, 20, 21, 22, 23, 24, 25, 26, 27, 28, 29, 30, 31, 32, 33] [] (sC_X_X_0_33 g ad R1 R2 R3 K T SN SZ F) (sR_X_X_0_33 g ad R1 R2 R3 K T SN SZ F) nR_X_X_0_33 dj_X_X_0_33 [0, 1, 2, 3, 4, 5, 6, 7, 8, 9, 10, 11, 12, 13, 14, 15, 16, 17, 18, 19, 20, 21, 22, 23, 24, 25, 26, 27, 28, 29, 30, 31, 32, 33] nP_X_X_0_33 (sP_X_X_0_33 g ad R1 R2 R3 K T SN SZ F R1 R2_14 R3 K T SN SZ F) (fun H locs hH => ?_)
    refine lv_aload_n hx hb dX5_oil_22 rfl (lv_at hl 0 rfl) ?_
    refine gf_RX5_16 C hE hH 0 rfl rfl dX5_oil_23 ?_
    refine lv_iload_n hx hb dX5_oil_26 rfl (lv_at hl 1 rfl) ?_
    obtain ⟨R2_16, hc_17, hf⟩ := bind_inv hf
    refine aftV (runV C hE hA hH [8, 9, 10, 11, 12, 13, 14] nC_X_L_8_14 (sC_X_L_8_14 g ad R1 R2_14 R3 K T SN SZ F) (kX1_passDays l g (fun k => ad (8 + k)) _ R2_14 x1 R2_16  hc_17) tw_14_1 tw_14_2 tw_14_3 tw_1_15 tw_14_4 hdX1_passDays 8 rfl rfl rfl rfl ⟨Nat.le_of_ble_eq_true rfl, Nat.le_of_ble_eq_true rfl⟩ rfl hl.1 (rest := []) rfl (Nat.le_of_ble_eq_true rfl) dX5_oil_27 ⟨Nat.zero_le _, Nat.zero_le _⟩) hA hH [8, 9, 10, 11, 12, 13, 14] [0, 1, 2, 3, 4, 5, 6, 7, 15, 16, 17, 18, 19, 20, 21, 22, 23, 24, 25, 26, 27, 28, 29, 30, 31, 32, 33] (sC_X_L_8_14 g ad R1 R2_14 R3 K T SN SZ F) (sR_X_L_8_14 g ad R1 R2_14 R3 K T SN SZ F) nR_X_L_8_14 dj_X_L_8_14 [0, 1, 2, 3, 4, 5, 6, 7, 27, 28, 29, 30, 31, 32, 33, 8, 9, 10, 11, 12, 13, 14, 15, 16, 17, 18, 19, 20, 21, 22, 23, 24, 25, 26] nP_X_L_8_14 (sP_X_L_8_14 g ad R1 R2_14 R3 K T SN SZ F R2_16) (fun H locs hH => ?_)
    refine lv_aload_n hx hb dX5_oil_30 rfl (lv_at hl 0 rfl) ?_
    refine gf_RX5_16 C hE hH 0 rfl rfl dX5_oil_31 ?_
    refine gf_RX5_150 C hE hH 8 rfl rfl dX5_oil_34 ?_
    have hf := Option.some.inj hf
    obtain ⟨h1, hf⟩ := Prod.mk.inj hf
    obtain ⟨h2, h3⟩ := Prod.mk.inj hf
    subst h1
    subst h2
    subst h3
    exact retI C hH rfl dX5_oil_37
  · have hf := if_p hf c_13
    refine lv_aload_n hx hb dX5_oil_11 rfl (lv_at hl 0 rfl) ?_
    refine lv_ldc hx hb hown (hT _ tw_4_12) dX5_oil_12 ?_
    obtain ⟨r_18, F_19, hc_20, hf⟩ := bind2_inv hf
    refine aftI (runV C hE hA hH [0, 1, 2, 3, 4, 5, 6, 7, 8, 9, 10, 11, 12, 13, 14, 15, 16, 17, 18, 19, 20, 21, 22, 23, 24, 25, 26, 27, 28, 29, 30, 31, 32, 33] nC_X_X_0_33 (sC_X_X_0_33 g ad R1 R2 R3 K T SN SZ F) (kX5_tell l g ad _ R1 R2 R3 K T SN SZ F (-1000000001 : Int32) r_18 F_19  hc_20) tw_4_17 tw_4_18 tw_4_19 tw_1_2 tw_4_20 hdX5_tell 0 rfl rfl rfl rfl ⟨Nat.le_of_ble_eq_true rfl, Nat.le_of_ble_eq_true rfl⟩ rfl hl.1 (rest := []) rfl (Nat.le_of_ble_eq_true rfl) dX5_oil_14 ⟨Nat.zero_le _, Nat.zero_le _⟩) hA hH [0, 1, 2, 3, 4, 5, 6, 7, 8, 9, 10, 11, 12, 13, 14, 15, 16, 17, 18, 19, 20, 21, 22, 23, 24, 25, 26, 27, 28, 29, 30, 31, 32, 33] [] (sC_X_X_0_33 g ad R1 R2 R3 K T SN SZ F) (sR_X_X_0_33 g ad R1 R2 R3 K T SN SZ F) nR_X_X_0_33 dj_X_X_0_33 [0, 1, 2, 3, 4, 5, 6, 7, 8, 9, 10, 11, 12, 13, 14, 15, 16, 17, 18, 19, 20, 21, 22, 23, 24, 25, 26, 27, 28, 29, 30, 31, 32, 33] nP_X_X_0_33 (sP_X_X_0_33 g ad R1 R2 R3 K T SN SZ F R1 R2 R3 K T SN SZ F_19) (fun H locs hH => ?_)
    have hf := Option.some.inj hf
    obtain ⟨h1, hf⟩ := Prod.mk.inj hf
    obtain ⟨h2, h3⟩ := Prod.mk.inj hf
    subst h1
    subst h2
    subst h3
    exact retI C hH rfl dX5_oil_17
def fX5_relief_c28  (z0 : Int32) (R1 : M2) (R2 : M2) (R3 : M2) (K : Int32) (T : M2) (SN : J2) (SZ : M2) (F : M1) : Option (Int32 × M1) := some (z0, F)
def fX5_relief (R1 : M2) (R2 : M2) (R3 : M2) (K : Int32) (T : M2) (SN : J2) (SZ : M2) (F : M1) : Option (Int32 × M1) := (fX1_daysToRelief (200 : Int32) R1).bind (fun (r_7 : Int32) => (if r_7 ≤ (200 : Int32) then fX5_relief_c28  r_7 R1 R2 R3 K T SN SZ F else bind2 (fX5_tell (-1000000004 : Int32) R1 R2 R3 K T SN SZ F) (fun (r_10 : Int32) (F_11 : M1) => fX5_relief_c28  r_10 R1 R2 R3 K T SN SZ F_11)))
def rmX5_relief : Room := { frames := 4, cells := 0, slots := 0, locals := 87 }
theorem hdX5_relief : yX5_relief.cls = yX5_relief.cls ∧ yX5_relief.cls ≠ "java/lang/invoke/MethodHandle" ∧ yX5_relief.cls ≠ "java/lang/invoke/VarHandle" ∧ (parseMethodDescriptor yX5_relief.desc).map (fun d => d.parameters.length) = some 0 := by decide +kernel
set_option maxHeartbeats 4000000 in
set_option maxRecDepth 100000 in
theorem kX5_relief (l : Launch) (g : Gl) (ad : Nat → Nat) (sz : Nat) (R1 : M2) (R2 : M2) (R3 : M2) (K : Int32) (T : M2) (SN : J2) (SZ : M2) (F : M1)  (r : Int32) (F' : M1)  (hf : fX5_relief R1 R2 R3 K T SN SZ F = some (r, F')) : MetI l yX5_relief (Cond.code yX5_relief cX5_relief 2 (some .int) :: wsL_law) rmX5_relief [.ref (ad 0)] g (wX g ad R1 R2 R3 K T SN SZ F) sz r (wX g ad R1 R2 R3 K T SN SZ F') := by
  refine openI (by decide +kernel) (Nat.le_of_ble_eq_true rfl) ?_
  intro p e s m args below meth c A C hE hA hH ls hl
  have hl : lv_has ls 2 [(0, .ref (ad 0))] := hl
  have C : Cx p s m args meth c cX5_relief 2 (some .int) RX5 := C
  obtain ⟨hx, hb, hml, hown, hT, hr, hlk⟩ := id C
  rw [fX5_relief] at hf
  have j_28 : ∀ (z0 : Int32) (F : M1) (H : Heap) (locs : List Loc) (ls : Array Slot), fX5_relief_c28  z0 R1 R2 R3 K T SN SZ F = some (r, F') → Hp g A s H locs (wX g ad R1 R2 R3 K T SN SZ F) → lv_has ls 2 [] → W p l e rmX5_relief s m args below meth c H locs 0 0 (QI g A below args s r (wX g ad R1 R2 R3 K T SN SZ F')) (F0 m 28 ls [.int z0]) := by
    intro z0 F H locs  ls hf hH hl
    rw [fX5_relief_c28] at hf
    have hf := Option.some.inj hf
    obtain ⟨h1, h2⟩ := Prod.mk.inj hf
    subst h1
    subst h2
    exact retI C hH rfl dX5_relief_28
  refine lv_aload_n hx hb dX5_relief_0 rfl (lv_at hl 0 rfl) ?_
  refine gf_RX5_10 C hE hH 0 rfl rfl dX5_relief_1 ?_
  refine lv_sipush (v := 200) hx hb dX5_relief_4 (by decide) ?_
  obtain ⟨r_7, hc_8, hf⟩ := bind_inv hf
  refine aftPI (runV C hE hA hH [1, 2, 3, 4, 5, 6, 7] nC_X_L_1_7 (sC_X_L_1_7 g ad R1 R2 R3 K T SN SZ F) (kX1_daysToRelief l g (fun k => ad (1 + k)) _ R1 (200 : Int32) r_7  hc_8) tw_19_23 tw_20_0 tw_20_1 tw_1_15 tw_20_2 hdX1_daysToRelief 1 rfl rfl rfl rfl ⟨Nat.le_of_ble_eq_true rfl, Nat.le_of_ble_eq_true rfl⟩ rfl hl.1 (rest := []) rfl (Nat.le_of_ble_eq_true rfl) dX5_relief_7 ⟨Nat.zero_le _, Nat.zero_le _⟩) ?_
  refine lv_istore_n (lv' := [(1, .int r_7), (0, .ref (ad 0))]) hx hb dX5_relief_10 rfl hl (by decide) rfl (fun ls hl => ?_)
  refine lv_iload_n hx hb dX5_relief_11 rfl (lv_at hl 0 rfl) ?_
  refine lv_sipush (v := 200) hx hb dX5_relief_12 (by decide) ?_
  refine lv_icmp_le (tgt := 27) hx hb dX5_relief_15 (by decide) (fun c_9 => ?_) (fun c_9 => ?_)
  · have hf := if_p hf c_9
    refine lv_iload_n hx hb dX5_relief_27 rfl (lv_at hl 0 rfl) ?_
    exact j_28 r_7 F _ _ ls hf hH (lv_sub hl [] rfl)
  · have hf := if_n hf c_9
    refine lv_aload_n hx hb dX5_relief_18 rfl (lv_at hl 1 rfl) ?_
    refine lv_ldc hx hb hown (hT _ tw_19_22) dX5_relief_19 ?_
    obtain ⟨r_10, F_11, hc_12, hf⟩ := bind2_inv hf
    refine aftI (runV C hE hA hH [0, 1, 2, 3, 4, 5, 6, 7, 8, 9, 10, 11, 12, 13, 14, 15, 16, 17, 18, 19, 20, 21, 22, 23, 24, 25, 26, 27, 28, 29, 30, 31, 32, 33] nC_X_X_0_33 (sC_X_X_0_33 g ad R1 R2 R3 K T SN SZ F) (kX5_tell l g ad _ R1 R2 R3 K T SN SZ F (-1000000004 : Int32) r_10 F_11  hc_12) tw_4_17 tw_4_18 tw_4_19 tw_1_2 tw_4_20 hdX5_tell 0 rfl rfl rfl rfl ⟨Nat.le_of_ble_eq_true rfl, Nat.le_of_ble_eq_true rfl⟩ rfl hl.1 (rest := []) rfl (Nat.le_of_ble_eq_true rfl) dX5_relief_21 ⟨Nat.zero_le _, Nat.zero_le _⟩) hA hH [0, 1, 2, 3, 4, 5, 6, 7, 8, 9, 10, 11, 12, 13, 14, 15, 16, 17, 18, 19, 20, 21, 22, 23, 24, 25, 26, 27, 28, 29, 30, 31, 32, 33] [] (sC_X_X_0_33 g ad R1 R2 R3 K T SN SZ F) (sR_X_X_0_33 g ad R1 R2 R3 K T SN SZ F) nR_X_X_0_33 dj_X_X_0_33 [0, 1, 2, 3, 4, 5, 6, 7, 8, 9, 10, 11, 12, 13, 14, 15, 16, 17, 18, 19, 20, 21, 22, 23, 24, 25, 26, 27, 28, 29, 30, 31, 32, 33] nP_X_X_0_33 (sP_X_X_0_33 g ad R1 R2 R3 K T SN SZ F R1 R2 R3 K T SN SZ F_11) (fun H locs hH => ?_)
    refine lv_goto (tgt := 28) hx hb dX5_relief_24 (by decide) ?_
    exact j_28 r_10 F_11 _ _ ls hf hH (lv_sub hl [] rfl)
def fX5_ashore_c58  (R1 : M2) (R2 : M2) (R3 : M2) (K : Int32) (T : M2) (SN : J2) (SZ : M2) (F : M1) : Option (Int32 × M2 × M1) := bind2 (fX5_tell (-1000000004 : Int32) R1 R2 R3 K T SN SZ F) (fun (r_18 : Int32) (F_19 : M1) => some (r_18, R2, F_19))
def fX5_ashore_c43  (y2 : Int32) (R1 : M2) (R2 : M2) (R3 : M2) (K : Int32) (T : M2) (SN : J2) (SZ : M2) (F : M1) : Option (Int32 × M2 × M1) := some (y2, R2, F)
def fX5_ashore_c24  : Nat → Int32 → Int32 → M2 → M2 → M2 → Int32 → M2 → J2 → M2 → M1 → Option (Int32 × M2 × M1)
  | 0, _, _, _, _, _, _, _, _, _, _ => none
  | n + 1, y1, y2, R1, R2, R3, K, T, SN, SZ, F => (if (200 : Int32) < y2 then fX5_ashore_c58  R1 R2 R3 K T SN SZ F else grd (inb y1 8) ((if (R2 3 y1.toNatClampNeg) = 0 then fX5_ashore_c43  y2 R1 R2 R3 K T SN SZ F else (fX1_passDay R2).bind (fun (R2_24 : M2) => letb (y2 + (1 : Int32)) (fun v_26 : Int32 => fX5_ashore_c24 n y1 v_26 R1 R2_24 R3 K T SN SZ F)))))
def fX5_ashore (x1 : Int32) (R1 : M2) (R2 : M2) (R3 : M2) (K : Int32) (T : M2) (SN : J2) (SZ : M2) (F : M1) : Option (Int32 × M2 × M1) := (fX1_hasKeeper x1 R1).bind (fun (r_27 : Int32) => (if r_27 = 0 then bind2 (fX5_tell (-1000000001 : Int32) R1 R2 R3 K T SN SZ F) (fun (r_32 : Int32) (F_33 : M1) => some (r_32, R2, F_33)) else (fX5_startTrial R1 R2 R3 K T SN SZ F).bind (fun (R2_30 : M2) => fX5_ashore_c24  FU x1 (0 : Int32) R1 R2_30 R3 K T SN SZ F)))
def rmX5_ashore : Room := { frames := 5, cells := 0, slots := 0, locals := 115 }
theorem hdX5_ashore : yX5_ashore.cls = yX5_ashore.cls ∧ yX5_ashore.cls ≠ "java/lang/invoke/MethodHandle" ∧ yX5_ashore.cls ≠ "java/lang/invoke/VarHandle" ∧ (parseMethodDescriptor yX5_ashore.desc).map (fun d => d.parameters.length) = some 1 := by decide +kernel
set_option maxHeartbeats 4000000 in
set_option maxRecDepth 100000 in
theorem kX5_ashore (l : Launch) (g : Gl) (ad : Nat → Nat) (sz : Nat) (R1 : M2) (R2 : M2) (R3 : M2) (K : Int32) (T : M2) (SN : J2) (SZ : M2) (F : M1) (x1 : Int32) (r : Int32) (R2' : M2) (F' : M1)  (hf : fX5_ashore x1 R1 R2 R3 K T SN SZ F = some (r, R2', F')) : MetI l yX5_ashore (Cond.code yX5_ashore cX5_ashore 3 (some .int) :: wsL_law) rmX5_ashore [.ref (ad 0), .int x1] g (wX g ad R1 R2 R3 K T SN SZ F) sz r (wX g ad R1 R2' R3 K T SN SZ F') := by
  refine openI (by decide +kernel) (Nat.le_of_ble_eq_true rfl) ?_
  intro p e s m args below meth c A C hE hA hH ls hl
  have hl : lv_has ls 3 [(0, .ref (ad 0)), (1, .int x1)] := hl
  have C : Cx p s m args meth c cX5_ashore 3 (some .int) RX5 := C
  obtain ⟨hx, hb, hml, hown, hT, hr, hlk⟩ := id C
  rw [fX5_ashore] at hf
  have lp_24 : ∀ (n_24 : Nat) (y1 : Int32) (y2 : Int32) (R2 : M2) (F : M1) (H : Heap) (locs : List Loc) (ls : Array Slot), fX5_ashore_c24  n_24 y1 y2 R1 R2 R3 K T SN SZ F = some (r, R2', F') → Hp g A s H locs (wX g ad R1 R2 R3 K T SN SZ F) → lv_has ls 3 [(0, .ref (ad 0)), (1, .int y1), (2, .int y2)] → W p l e rmX5_ashore s m args below meth c H locs 0 0 (QI g A below args s r (wX g ad R1 R2' R3 K T SN SZ F')) (F0 m 24 ls []) := by
    intro n_24
    induction n_24 with
    | zero =>
      intro y1 y2 R2 F H locs  ls hf hH hl
      rw [fX5_ashore_c24] at hf
      cases hf
    | succ n_24 ih_24 =>
      intro y1 y2 R2 F H locs  ls hf hH hl
      rw [fX5_ashore_c24] at hf
      have j_58 : ∀ (R2 : M2) (F : M1) (H : Heap) (locs : List Loc) (ls : Array Slot), fX5_ashore_c58  R1 R2 R3 K T SN SZ F = some (r, R2', F') → Hp g A s H locs (wX g ad R1 R2 R3 K T SN SZ F) → lv_has ls 3 [(0, .ref (ad 0))] → W p l e rmX5_ashore s m args below meth c H locs 0 0 (QI g A below args s r (wX g ad R1 R2' R3 K T SN SZ F')) (F0 m 58 ls []) := by
        intro R2 F H locs  ls hf hH hl
        rw [fX5_ashore_c58] at hf
        refine lv_aload_n hx hb dX5_ashore_58 rfl (lv_at hl 0 rfl) ?_
        refine lv_ldc hx hb hown (hT _ tw_19_22) dX5_ashore_59 ?_
        obtain ⟨r_18, F_19, hc_20, hf⟩ := bind2_inv hf
        refine aftI (runV C hE hA hH [0, 1, 2, 3, 4, 5, 6, 7, 8, 9, 10, 11, 12, 13, 14, 15, 16, 17, 18, 19, 20, 21, 22, 23, 24, 25, 26, 27, 28, 29, 30, 31, 32, 33] nC_X_X_0_33 (sC_X_X_0_33 g ad R1 R2 R3 K T SN SZ F) (kX5_tell l g ad _ R1 R2 R3 K T SN SZ F (-1000000004 : Int32) r_18 F_19  hc_20) tw_4_17 tw_4_18 tw_4_19 tw_1_2 tw_4_20 hdX5_tell 0 rfl rfl rfl rfl ⟨Nat.le_of_ble_eq_true rfl, Nat.le_of_ble_eq_true rfl⟩ rfl hl.1 (rest := []) rfl (Nat.le_of_ble_eq_true rfl) dX5_ashore_61 ⟨Nat.zero_le _, Nat.zero_le _⟩) hA hH [0, 1, 2, 3, 4, 5, 6, 7, 8, 9, 10, 11, 12, 13, 14, 15, 16, 17, 18, 19, 20, 21, 22, 23, 24, 25, 26, 27, 28, 29, 30, 31, 32, 33] [] (sC_X_X_0_33 g ad R1 R2 R3 K T SN SZ F) (sR_X_X_0_33 g ad R1 R2 R3 K T SN SZ F) nR_X_X_0_33 dj_X_X_0_33 [0, 1, 2, 3, 4, 5, 6, 7, 8, 9, 10, 11, 12, 13, 14, 15, 16, 17, 18, 19, 20, 21, 22, 23, 24, 25, 26, 27, 28, 29, 30, 31, 32, 33] nP_X_X_0_33 (sP_X_X_0_33 g ad R1 R2 R3 K T SN SZ F R1 R2 R3 K T SN SZ F_19) (fun H locs hH => ?_)
        have hf := Option.some.inj hf
        obtain ⟨h1, hf⟩ := Prod.mk.inj hf
        obtain ⟨h2, h3⟩ := Prod.mk.inj hf
        subst h1
        subst h2
        subst h3
        exact retI C hH rfl dX5_ashore_64
      have j_43 : ∀ (y2 : Int32) (R2 : M2) (F : M1) (H : Heap) (locs : List Loc) (ls : Array Slot), fX5_ashore_c43  y2 R1 R2 R3 K T SN SZ F = some (r, R2', F') → Hp g A s H locs (wX g ad R1 R2 R3 K T SN SZ F) → lv_has ls 3 [(2, .int y2)] → W p l e rmX5_ashore s m args below meth c H locs 0 0 (QI g A below args s r (wX g ad R1 R2' R3 K T SN SZ F')) (F0 m 43 ls []) := by
        intro y2 R2 F H locs  ls hf hH hl
        rw [fX5_ashore_c43] at hf
        refine lv_iload_n hx hb dX5_ashore_43 rfl (lv_at hl 0 rfl) ?_
        have hf := Option.some.inj hf
        obtain ⟨h1, hf⟩ := Prod.mk.inj hf
        obtain ⟨h2, h3⟩ := Prod.mk.inj hf
        subst h1
        subst h2
        subst h3
        exact retI C hH rfl dX5_ashore_44
      refine lv_iload_n hx hb dX5_ashore_24 rfl (lv_at hl 2 rfl) ?_
      refine lv_sipush (v := 200) hx hb dX5_ashore_25 (by decide) ?_
      refine lv_icmp_gt (tgt := 58) hx hb dX5_ashore_28 (by decide) (fun c_21 => ?_) (fun c_21 => ?_)
      · have hf := if_p hf c_21
        exact j_58 R2 F _ _ ls hf hH (lv_sub hl [0] rfl)
      · have hf := if_n hf c_21
        refine lv_aload_n hx hb dX5_ashore_31 rfl (lv_at hl 0 rfl) ?_
        refine gf_RX5_16 C hE hH 0 rfl rfl dX5_ashore_32 ?_
        refine gf_RX5_96 C hE hH 8 rfl rfl dX5_ashore_35 ?_
        refine lv_iload_n hx hb dX5_ashore_38 rfl (lv_at hl 1 rfl) ?_
        obtain ⟨hi_22, hf⟩ := grd_inv hf
        refine xiald C hE hH 11 rfl hi_22 dX5_ashore_39 ?_
        refine lv_if_ne (tgt := 45) hx hb dX5_ashore_40 (by decide) (fun c_23 => ?_) (fun c_23 => ?_)
        · have hf := if_n hf c_23
          refine lv_aload_n hx hb dX5_ashore_45 rfl (lv_at hl 0 rfl) ?_
          refine gf_RX5_16 C hE hH 0 rfl rfl dX5_ashore_46 ?_
          obtain ⟨R2_24, hc_25, hf⟩ := bind_inv hf
          refine aftV (runV C hE hA hH [8, 9, 10, 11, 12, 13, 14] nC_X_L_8_14 (sC_X_L_8_14 g ad R1 R2 R3 K T SN SZ F) (kX1_passDay l g (fun k => ad (8 + k)) _ R2 R2_24  hc_25) tw_20_17 tw_14_6 tw_14_7 tw_1_15 tw_14_8 hdX1_passDay 8 rfl rfl rfl rfl ⟨Nat.le_of_ble_eq_true rfl, Nat.le_of_ble_eq_true rfl⟩ rfl hl.1 (rest := []) rfl (Nat.le_of_ble_eq_true rfl) dX5_ashore_49 ⟨Nat.zero_le _, Nat.zero_le _⟩) hA hH [8, 9, 10, 11, 12, 13, 14] [0, 1, 2, 3, 4, 5, 6, 7, 15, 16, 17, 18, 19, 20, 21, 22, 23, 24, 25, 26, 27, 28, 29, 30, 31, 32, 33] (sC_X_L_8_14 g ad R1 R2 R3 K T SN SZ F) (sR_X_L_8_14 g ad R1 R2 R3 K T SN SZ F) nR_X_L_8_14 dj_X_L_8_14 [0, 1, 2, 3, 4, 5, 6, 7, 27, 28, 29, 30, 31, 32, 33, 8, 9, 10, 11, 12, 13, 14, 15, 16, 17, 18, 19, 20, 21, 22, 23, 24, 25, 26] nP_X_L_8_14 (sP_X_L_8_14 g ad R1 R2 R3 K T SN SZ F R2_24) (fun H locs hH => ?_)
          obtain ⟨v_26, ev_26⟩ : ∃ z : Int32, z = y2 + (1 : Int32) := ⟨_, rfl⟩
          have hf := letb_at hf v_26 ev_26
          refine lv_iinc (v := v_26) (lv' := [(2, .int v_26), (0, .ref (ad 0)), (1, .int y1)]) hx hb dX5_ashore_52 hl (k := 2) rfl (by rw [ev_26]; rfl) (by decide) rfl (fun ls hl => ?_)
          refine lv_goto (tgt := 24) hx hb dX5_ashore_55 (by decide) ?_
          exact ih_24 y1 v_26 R2_24 F _ _ ls hf hH (lv_sub hl [1, 2, 0] rfl)
        · have hf := if_p hf c_23
          exact j_43 y2 R2 F _ _ ls hf hH (lv_sub hl [2] rfl)
  refine lv_aload_n hx hb dX5_ashore_0 rfl (lv_at hl 0 rfl) ?_
  refine gf_RX5_10 C hE hH 0 rfl rfl dX5_ashore_1 ?_
  refine lv_iload_n hx hb dX5_ashore_4 rfl (lv_at hl 1 rfl) ?_
  obtain ⟨r_27, hc_28, hf⟩ := bind_inv hf
  refine aftPI (runV C hE hA hH [1, 2, 3, 4, 5, 6, 7] nC_X_L_1_7 (sC_X_L_1_7 g ad R1 R2 R3 K T SN SZ F) (kX1_hasKeeper l g (fun k => ad (1 + k)) _ R1 x1 r_27  hc_28) tw_9_6 tw_9_7 tw_9_8 tw_1_15 tw_9_9 hdX1_hasKeeper 1 rfl rfl rfl rfl ⟨Nat.le_of_ble_eq_true rfl, Nat.le_of_ble_eq_true rfl⟩ rfl hl.1 (rest := []) rfl (Nat.le_of_ble_eq_true rfl) dX5_ashore_5 ⟨Nat.zero_le _, Nat.zero_le _⟩) ?_
  refine lv_if_ne (tgt := 18) hx hb dX5_ashore_8 (by decide) (fun c_29 => ?_) (fun c_29 => ?_)
  · have hf := if_n hf c_29
    refine lv_aload_n hx hb dX5_ashore_18 rfl (lv_at hl 0 rfl) ?_
    obtain ⟨R2_30, hc_31, hf⟩ := bind_inv hf
    refine aftV (runV C hE hA hH [0, 1, 2, 3, 4, 5, 6, 7, 8, 9, 10, 11, 12, 13, 14, 15, 16, 17, 18, 19, 20, 21, 22, 23, 24, 25, 26, 27, 28, 29, 30, 31, 32, 33] nC_X_X_0_33 (sC_X_X_0_33 g ad R1 R2 R3 K T SN SZ F) (kX5_startTrial l g ad _ R1 R2 R3 K T SN SZ F R2_30  hc_31) tw_18_14 tw_18_15 tw_18_16 tw_1_2 tw_18_17 hdX5_startTrial 0 rfl rfl rfl rfl ⟨Nat.le_of_ble_eq_true rfl, Nat.le_of_ble_eq_true rfl⟩ rfl hl.1 (rest := []) rfl (Nat.le_of_ble_eq_true rfl) dX5_ashore_19 ⟨Nat.zero_le _, Nat.zero_le _⟩) hA hH [0, 1, 2, 3, 4, 5, 6, 7, 8, 9, 10, 11, 12, 13, 14, 15, 16, 17, 18, 19, 20, 21, 22, 23, 24, 25, 26, 27, 28, 29, 30, 31, 32, 33] [] (sC_X_X_0_33 g ad R1 R2 R3 K T SN SZ F) (sR_X_X_0_33 g ad R1 R2 R3 K T SN SZ F) nR_X_X_0_33 dj_X_X_0_33 [0, 1, 2, 3, 4, 5, 6, 7, 8, 9, 10, 11, 12, 13, 14, 15, 16, 17, 18, 19, 20, 21, 22, 23, 24, 25, 26, 27, 28, 29, 30, 31, 32, 33] nP_X_X_0_33 (sP_X_X_0_33 g ad R1 R2 R3 K T SN SZ F R1 R2_30 R3 K T SN SZ F) (fun H locs hH => ?_)
    refine lv_iconst (v := 0) hx hb dX5_ashore_22 (by decide) ?_
    refine lv_istore_n (lv' := [(2, .int (0 : Int32)), (0, .ref (ad 0)), (1, .int x1)]) hx hb dX5_ashore_23 rfl hl (by decide) rfl (fun ls hl => ?_)
    exact lp_24 _ x1 (0 : Int32) R2_30 F _ _ ls hf hH (lv_sub hl [1, 2, 0] rfl)
  · have hf := if_p hf c_29
    refine lv_aload_n hx hb dX5_ashore_11 rfl (lv_at hl 0 rfl) ?_
    refine lv_ldc hx hb hown (hT _ tw_4_12) dX5_ashore_12 ?_
    obtain ⟨r_32, F_33, hc_34, hf⟩ := bind2_inv hf
    refine aftI (runV C hE hA hH [0, 1, 2, 3, 4, 5, 6, 7, 8, 9, 10, 11, 12, 13, 14, 15, 16, 17, 18, 19, 20, 21, 22, 23, 24, 25, 26, 27, 28, 29, 30, 31, 32, 33] nC_X_X_0_33 (sC_X_X_0_33 g ad R1 R2 R3 K T SN SZ F) (kX5_tell l g ad _ R1 R2 R3 K T SN SZ F (-1000000001 : Int32) r_32 F_33  hc_34) tw_4_17 tw_4_18 tw_4_19 tw_1_2 tw_4_20 hdX5_tell 0 rfl rfl rfl rfl ⟨Nat.le_of_ble_eq_true rfl, Nat.le_of_ble_eq_true rfl⟩ rfl hl.1 (rest := []) rfl (Nat.le_of_ble_eq_true rfl) dX5_ashore_14 ⟨Nat.zero_le _, Nat.zero_le _⟩) hA hH [0, 1, 2, 3, 4, 5, 6, 7, 8, 9, 10, 11, 12, 13, 14, 15, 16, 17, 18, 19, 20, 21, 22, 23, 24, 25, 26, 27, 28, 29, 30, 31, 32, 33] [] (sC_X_X_0_33 g ad R1 R2 R3 K T SN SZ F) (sR_X_X_0_33 g ad R1 R2 R3 K T SN SZ F) nR_X_X_0_33 dj_X_X_0_33 [0, 1, 2, 3, 4, 5, 6, 7, 8, 9, 10, 11, 12, 13, 14, 15, 16, 17, 18, 19, 20, 21, 22, 23, 24, 25, 26, 27, 28, 29, 30, 31, 32, 33] nP_X_X_0_33 (sP_X_X_0_33 g ad R1 R2 R3 K T SN SZ F R1 R2 R3 K T SN SZ F_33) (fun H locs hH => ?_)
    have hf := Option.some.inj hf
    obtain ⟨h1, hf⟩ := Prod.mk.inj hf
    obtain ⟨h2, h3⟩ := Prod.mk.inj hf
    subst h1
    subst h2
    subst h3
    exact retI C hH rfl dX5_ashore_17
def fX5_knows_c18  (R1 : M2) (R2 : M2) (R3 : M2) (K : Int32) (T : M2) (SN : J2) (SZ : M2) (F : M1) : Option (Int32 × M2 × M1) := bind2 (fX5_tell (-1000000001 : Int32) R1 R2 R3 K T SN SZ F) (fun (r_22 : Int32) (F_23 : M1) => some (r_22, R2, F_23))
def fX5_knows_c65  (R1 : M2) (R2 : M2) (R3 : M2) (K : Int32) (T : M2) (SN : J2) (SZ : M2) (F : M1) : Option (Int32 × M2 × M1) := bind2 (fX5_tell (-1000000004 : Int32) R1 R2 R3 K T SN SZ F) (fun (r_25 : Int32) (F_26 : M1) => some (r_25, R2, F_26))
def fX5_knows_c50  (y3 : Int32) (R1 : M2) (R2 : M2) (R3 : M2) (K : Int32) (T : M2) (SN : J2) (SZ : M2) (F : M1) : Option (Int32 × M2 × M1) := some (y3, R2, F)
def fX5_knows_c31  : Nat → Int32 → Int32 → Int32 → M2 → M2 → M2 → Int32 → M2 → J2 → M2 → M1 → Option (Int32 × M2 × M1)
  | 0, _, _, _, _, _, _, _, _, _, _, _ => none
  | n + 1, y1, y2, y3, R1, R2, R3, K, T, SN, SZ, F => (if (200 : Int32) < y3 then fX5_knows_c65  R1 R2 R3 K T SN SZ F else (fX1_knowsWord y1 y2 R2).bind (fun (r_29 : Int32) => (if r_29 = 0 then (fX1_passDay R2).bind (fun (R2_32 : M2) => letb (y3 + (1 : Int32)) (fun v_34 : Int32 => fX5_knows_c31 n y1 y2 v_34 R1 R2_32 R3 K T SN SZ F)) else fX5_knows_c50  y3 R1 R2 R3 K T SN SZ F)))
def fX5_knows (x1 : Int32) (x2 : Int32) (R1 : M2) (R2 : M2) (R3 : M2) (K : Int32) (T : M2) (SN : J2) (SZ : M2) (F : M1) : Option (Int32 × M2 × M1) := (fX1_hasKeeper x1 R1).bind (fun (r_35 : Int32) => (if r_35 = 0 then fX5_knows_c18  R1 R2 R3 K T SN SZ F else (fX5_isWord x2).bind (fun (r_38 : Int32) => (if r_38 = 0 then fX5_knows_c18  R1 R2 R3 K T SN SZ F else (fX5_startTrial R1 R2 R3 K T SN SZ F).bind (fun (R2_41 : M2) => fX5_knows_c31  FU x1 x2 (0 : Int32) R1 R2_41 R3 K T SN SZ F)))))
def rmX5_knows : Room := { frames := 5, cells := 0, slots := 0, locals := 115 }
theorem hdX5_knows : yX5_knows.cls = yX5_knows.cls ∧ yX5_knows.cls ≠ "java/lang/invoke/MethodHandle" ∧ yX5_knows.cls ≠ "java/lang/invoke/VarHandle" ∧ (parseMethodDescriptor yX5_knows.desc).map (fun d => d.parameters.length) = some 2 := by decide +kernel
set_option maxHeartbeats 4000000 in
set_option maxRecDepth 100000 in
theorem kX5_knows (l : Launch) (g : Gl) (ad : Nat → Nat) (sz : Nat) (R1 : M2) (R2 : M2) (R3 : M2) (K : Int32) (T : M2) (SN : J2) (SZ : M2) (F : M1) (x1 : Int32) (x2 : Int32) (r : Int32) (R2' : M2) (F' : M1)  (hf : fX5_knows x1 x2 R1 R2 R3 K T SN SZ F = some (r, R2', F')) : MetI l yX5_knows (Cond.code yX5_knows cX5_knows 4 (some .int) :: wsL_law) rmX5_knows [.ref (ad 0), .int x1, .int x2] g (wX g ad R1 R2 R3 K T SN SZ F) sz r (wX g ad R1 R2' R3 K T SN SZ F') := by
  refine openI (by decide +kernel) (Nat.le_of_ble_eq_true rfl) ?_
  intro p e s m args below meth c A C hE hA hH ls hl
  have hl : lv_has ls 4 [(0, .ref (ad 0)), (1, .int x1), (2, .int x2)] := hl
  have C : Cx p s m args meth c cX5_knows 4 (some .int) RX5 := C
  obtain ⟨hx, hb, hml, hown, hT, hr, hlk⟩ := id C
  rw [fX5_knows] at hf
  have j_18 : ∀ (R2 : M2) (F : M1) (H : Heap) (locs : List Loc) (ls : Array Slot), fX5_knows_c18  R1 R2 R3 K T SN SZ F = some (r, R2', F') → Hp g A s H locs (wX g ad R1 R2 R3 K T SN SZ F) → lv_has ls 4 [(0, .ref (ad 0))] → W p l e rmX5_knows s m args below meth c H locs 0 0 (QI g A below args s r (wX g ad R1 R2' R3 K T SN SZ F')) (F0 m 18 ls []) := by
    intro R2 F H locs  ls hf hH hl
    rw [fX5_knows_c18] at hf
    refine lv_aload_n hx hb dX5_knows_18 rfl (lv_at hl 0 rfl) ?_
    refine lv_ldc hx hb hown (hT _ tw_4_12) dX5_knows_19 ?_
    obtain ⟨r_22, F_23, hc_24, hf⟩ := bind2_inv hf
    refine aftI (runV C hE hA hH [0, 1, 2, 3, 4, 5, 6, 7, 8, 9, 10, 11, 12, 13, 14, 15, 16, 17, 18, 19, 20, 21, 22, 23, 24, 25, 26, 27, 28, 29, 30, 31, 32, 33] nC_X_X_0_33 (sC_X_X_0_33 g ad R1 R2 R3 K T SN SZ F) (kX5_tell l g ad _ R1 R2 R3 K T SN SZ F (-1000000001 : Int32) r_22 F_23  hc_24) tw_4_17 tw_4_18 tw_4_19 tw_1_2 tw_4_20 hdX5_tell 0 rfl rfl rfl rfl ⟨Nat.le_of_ble_eq_true rfl, Nat.le_of_ble_eq_true rfl⟩ rfl hl.1 (rest := []) rfl (Nat.le_of_ble_eq_true rfl) dX5_knows_21 ⟨Nat.zero_le _, Nat.zero_le _⟩) hA hH [0, 1, 2, 3, 4, 5, 6, 7, 8, 9, 10, 11, 12, 13, 14, 15, 16, 17, 18, 19, 20, 21, 22, 23, 24, 25, 26, 27, 28, 29, 30, 31, 32, 33] [] (sC_X_X_0_33 g ad R1 R2 R3 K T SN SZ F) (sR_X_X_0_33 g ad R1 R2 R3 K T SN SZ F) nR_X_X_0_33 dj_X_X_0_33 [0, 1, 2, 3, 4, 5, 6, 7, 8, 9, 10, 11, 12, 13, 14, 15, 16, 17, 18, 19, 20, 21, 22, 23, 24, 25, 26, 27, 28, 29, 30, 31, 32, 33] nP_X_X_0_33 (sP_X_X_0_33 g ad R1 R2 R3 K T SN SZ F R1 R2 R3 K T SN SZ F_23) (fun H locs hH => ?_)
    have hf := Option.some.inj hf
    obtain ⟨h1, hf⟩ := Prod.mk.inj hf
    obtain ⟨h2, h3⟩ := Prod.mk.inj hf
    subst h1
    subst h2
    subst h3
    exact retI C hH rfl dX5_knows_24
  have lp_31 : ∀ (n_31 : Nat) (y1 : Int32) (y2 : Int32) (y3 : Int32) (R2 : M2) (F : M1) (H : Heap) (locs : List Loc) (ls : Array Slot), fX5_knows_c31  n_31 y1 y2 y3 R1 R2 R3 K T SN SZ F = some (r, R2', F') → Hp g A s H locs (wX g ad R1 R2 R3 K T SN SZ F) → lv_has ls 4 [(0, .ref (ad 0)), (1, .int y1), (2, .int y2), (3, .int y3)] → W p l e rmX5_knows s m args below meth c H locs 0 0 (QI g A below args s r (wX g ad R1 R2' R3 K T SN SZ F')) (F0 m 31 ls []) := by
    intro n_31
    induction n_31 with
    | zero =>
      intro y1 y2 y3 R2 F H locs  ls hf hH hl
      rw [fX5_knows_c31] at hf
      cases hf
    | succ n_31 ih_31 =>
      intro y1 y2 y3 R2 F H locs  ls hf hH hl
      rw [fX5_knows_c31] at hf
      have j_65 : ∀ (R2 : M2) (F : M1) (H : Heap) (locs : List Loc) (ls : Array Slot), fX5_knows_c65  R1 R2 R3 K T SN SZ F = some (r, R2', F') → Hp g A s H locs (wX g ad R1 R2 R3 K T SN SZ F) → lv_has ls 4 [(0, .ref (ad 0))] → W p l e rmX5_knows s m args below meth c H locs 0 0 (QI g A below args s r (wX g ad R1 R2' R3 K T SN SZ F')) (F0 m 65 ls []) := by
        intro R2 F H locs  ls hf hH hl
        rw [fX5_knows_c65] at hf
        refine lv_aload_n hx hb dX5_knows_65 rfl (lv_at hl 0 rfl) ?_
        refine lv_ldc hx hb hown (hT _ tw_19_22) dX5_knows_66 ?_
        obtain ⟨r_25, F_26, hc_27, hf⟩ := bind2_inv hf
        refine aftI (runV C hE hA hH [0, 1, 2, 3, 4, 5, 6, 7, 8, 9, 10, 11, 12, 13, 14, 15, 16, 17, 18, 19, 20, 21, 22, 23, 24, 25, 26, 27, 28, 29, 30, 31, 32, 33] nC_X_X_0_33 (sC_X_X_0_33 g ad R1 R2 R3 K T SN SZ F) (kX5_tell l g ad _ R1 R2 R3 K T SN SZ F (-1000000004 : Int32) r_25 F_26  hc_27) tw_4_17 tw_4_18 tw_4_19 tw_1_2 tw_4_20 hdX5_tell 0 rfl rfl rfl rfl ⟨Nat.le_of_ble_eq_true rfl, Nat.le_of_ble_eq_true rfl⟩ rfl hl.1 (rest := []) rfl (Nat.le_of_ble_eq_true rfl) dX5_knows_68 ⟨Nat.zero_le _, Nat.zero_le _⟩) hA hH [0, 1, 2, 3, 4, 5, 6, 7, 8, 9, 10, 11, 12, 13, 14, 15, 16, 17, 18, 19, 20, 21, 22, 23, 24, 25, 26, 27, 28, 29, 30, 31, 32, 33] [] (sC_X_X_0_33 g ad R1 R2 R3 K T SN SZ F) (sR_X_X_0_33 g ad R1 R2 R3 K T SN SZ F) nR_X_X_0_33 dj_X_X_0_33 [0, 1, 2, 3, 4, 5, 6, 7, 8, 9, 10, 11, 12, 13, 14, 15, 16, 17, 18, 19, 20, 21, 22, 23, 24, 25, 26, 27, 28, 29, 30, 31, 32, 33] nP_X_X_0_33 (sP_X_X_0_33 g ad R1 R2 R3 K T SN SZ F R1 R2 R3 K T SN SZ F_26) (fun H locs hH => ?_)
        have hf := Option.some.inj hf
        obtain ⟨h1, hf⟩ := Prod.mk.inj hf
        obtain ⟨h2, h3⟩ := Prod.mk.inj hf
        subst h1
        subst h2
        subst h3
        exact retI C hH rfl dX5_knows_71
      have j_50 : ∀ (y3 : Int32) (R2 : M2) (F : M1) (H : Heap) (locs : List Loc) (ls : Array Slot), fX5_knows_c50  y3 R1 R2 R3 K T SN SZ F = some (r, R2', F') → Hp g A s H locs (wX g ad R1 R2 R3 K T SN SZ F) → lv_has ls 4 [(3, .int y3)] → W p l e rmX5_knows s m args below meth c H locs 0 0 (QI g A below args s r (wX g ad R1 R2' R3 K T SN SZ F')) (F0 m 50 ls []) := by
        intro y3 R2 F H locs  ls hf hH hl
        rw [fX5_knows_c50] at hf
        refine lv_iload_n hx hb dX5_knows_50 rfl (lv_at hl 0 rfl) ?_
        have hf := Option.some.inj hf
        obtain ⟨h1, hf⟩ := Prod.mk.inj hf
        obtain ⟨h2, h3⟩ := Prod.mk.inj hf
        subst h1
        subst h2
        subst h3
        exact retI C hH rfl dX5_knows_51
      refine lv_iload_n hx hb dX5_knows_31 rfl (lv_at hl 3 rfl) ?_
      refine lv_sipush (v := 200) hx hb dX5_knows_32 (by decide) ?_
      refine lv_icmp_gt (tgt := 65) hx hb dX5_knows_35 (by decide) (fun c_28 => ?_) (fun c_28 => ?_)
      · have hf := if_p hf c_28
        exact j_65 R2 F _ _ ls hf hH (lv_sub hl [0] rfl)
      · have hf := if_n hf c_28
        refine lv_aload_n hx hb dX5_knows_38 rfl (lv_at hl 0 rfl) ?_
        refine gf_RX5_16 C hE hH 0 rfl rfl dX5_knows_39 ?_
        refine lv_iload_n hx hb dX5_knows_42 rfl (lv_at hl 1 rfl) ?_
        refine lv_iload_n hx hb dX5_knows_43 rfl (lv_at hl 2 rfl) ?_
        obtain ⟨r_29, hc_30, hf⟩ := bind_inv hf
        refine aftPI (runV C hE hA hH [8, 9, 10, 11, 12, 13, 14] nC_X_L_8_14 (sC_X_L_8_14 g ad R1 R2 R3 K T SN SZ F) (kX1_knowsWord l g (fun k => ad (8 + k)) _ R2 y1 y2 r_29  hc_30) tw_21_5 tw_21_6 tw_21_7 tw_1_15 tw_21_8 hdX1_knowsWord 8 rfl rfl rfl rfl ⟨Nat.le_of_ble_eq_true rfl, Nat.le_of_ble_eq_true rfl⟩ rfl hl.1 (rest := []) rfl (Nat.le_of_ble_eq_true rfl) dX5_knows_44 ⟨Nat.zero_le _, Nat.zero_le _⟩) ?_
        refine lv_if_eq (tgt := 52) hx hb dX5_knows_47 (by decide) (fun c_31 => ?_) (fun c_31 => ?_)
        · have hf := if_p hf c_31
          refine lv_aload_n hx hb dX5_knows_52 rfl (lv_at hl 0 rfl) ?_
          refine gf_RX5_16 C hE hH 0 rfl rfl dX5_knows_53 ?_
          obtain ⟨R2_32, hc_33, hf⟩ := bind_inv hf
          refine aftV (runV C hE hA hH [8, 9, 10, 11, 12, 13, 14] nC_X_L_8_14 (sC_X_L_8_14 g ad R1 R2 R3 K T SN SZ F) (kX1_passDay l g (fun k => ad (8 + k)) _ R2 R2_32  hc_33) tw_20_17 tw_14_6 tw_14_7 tw_1_15 tw_14_8 hdX1_passDay 8 rfl rfl rfl rfl ⟨Nat.le_of_ble_eq_true rfl, Nat.le_of_ble_eq_true rfl⟩ rfl hl.1 (rest := []) rfl (Nat.le_of_ble_eq_true rfl) dX5_knows_56 ⟨Nat.zero_le _, Nat.zero_le _⟩) hA hH [8, 9, 10, 11, 12, 13, 14] [0, 1, 2, 3, 4, 5, 6, 7, 15, 16, 17, 18, 19, 20, 21, 22, 23, 24, 25, 26, 27, 28, 29, 30, 31, 32, 33] (sC_X_L_8_14 g ad R1 R2 R3 K T SN SZ F) (sR_X_L_8_14 g ad R1 R2 R3 K T SN SZ F) nR_X_L_8_14 dj_X_L_8_14 [0, 1, 2, 3, 4, 5, 6, 7, 27, 28, 29, 30, 31, 32, 33, 8, 9, 10, 11, 12, 13, 14, 15, 16, 17, 18, 19, 20, 21, 22, 23, 24, 25, 26] nP_X_L_8_14 (sP_X_L_8_14 g ad R1 R2 R3 K T SN SZ F R2_32) (fun H locs hH => ?_)
          obtain ⟨v_34, ev_34⟩ : ∃ z : Int32, z = y3 + (1 : Int32) := ⟨_, rfl⟩
          have hf := letb_at hf v_34 ev_34
          refine lv_iinc (v := v_34) (lv' := [(3, .int v_34), (0, .ref (ad 0)), (1, .int y1), (2, .int y2)]) hx hb dX5_knows_59 hl (k := 3) rfl (by rw [ev_34]; rfl) (by decide) rfl (fun ls hl => ?_)
          refine lv_goto (tgt := 31) hx hb dX5_knows_62 (by decide) ?_
          exact ih_31 y1 y2 v_34 R2_32 F _ _ ls hf hH (lv_sub hl [1, 2, 3, 0] rfl)
        · have hf := if_n hf c_31
          exact j_50 y3 R2 F _ _ ls hf hH (lv_sub hl [3] rfl)
  refine lv_aload_n hx hb dX5_knows_0 rfl (lv_at hl 0 rfl) ?_
  refine gf_RX5_10 C hE hH 0 rfl rfl dX5_knows_1 ?_
  refine lv_iload_n hx hb dX5_knows_4 rfl (lv_at hl 1 rfl) ?_
  obtain ⟨r_35, hc_36, hf⟩ := bind_inv hf
  refine aftPI (runV C hE hA hH [1, 2, 3, 4, 5, 6, 7] nC_X_L_1_7 (sC_X_L_1_7 g ad R1 R2 R3 K T SN SZ F) (kX1_hasKeeper l g (fun k => ad (1 + k)) _ R1 x1 r_35  hc_36) tw_9_6 tw_9_7 tw_9_8 tw_1_15 tw_9_9 hdX1_hasKeeper 1 rfl rfl rfl rfl ⟨Nat.le_of_ble_eq_true rfl, Nat.le_of_ble_eq_true rfl⟩ rfl hl.1 (rest := []) rfl (Nat.le_of_ble_eq_true rfl) dX5_knows_5 ⟨Nat.zero_le _, Nat.zero_le _⟩) ?_
  refine lv_if_eq (tgt := 18) hx hb dX5_knows_8 (by decide) (fun c_37 => ?_) (fun c_37 => ?_)
  · have hf := if_p hf c_37
    exact j_18 R2 F _ _ ls hf hH (lv_sub hl [0] rfl)
  · have hf := if_n hf c_37
    refine lv_iload_n hx hb dX5_knows_11 rfl (lv_at hl 2 rfl) ?_
    obtain ⟨r_38, hc_39, hf⟩ := bind_inv hf
    refine aftPI (runS C hE hA hH [] rfl rfl (kX5_isWord l g ad _ x2 r_38  hc_39) tw_21_2 tw_21_3 tw_1_2 tw_21_4 hdX5_isWord rfl rfl ⟨Nat.le_of_ble_eq_true rfl, Nat.le_of_ble_eq_true rfl⟩ rfl hl.1 (rest := []) rfl (Nat.le_of_ble_eq_true rfl) dX5_knows_12 ⟨Nat.zero_le _, Nat.zero_le _⟩) ?_
    refine lv_if_ne (tgt := 25) hx hb dX5_knows_15 (by decide) (fun c_40 => ?_) (fun c_40 => ?_)
    · have hf := if_n hf c_40
      refine lv_aload_n hx hb dX5_knows_25 rfl (lv_at hl 0 rfl) ?_
      obtain ⟨R2_41, hc_42, hf⟩ := bind_inv hf
      refine aftV (runV C hE hA hH [0, 1, 2, 3, 4, 5, 6, 7, 8, 9, 10, 11, 12, 13, 14, 15, 16, 17, 18, 19, 20, 21, 22, 23, 24, 25, 26, 27, 28, 29, 30, 31, 32, 33] nC_X_X_0_33 (sC_X_X_0_33 g ad R1 R2 R3 K T SN SZ F) (kX5_startTrial l g ad _ R1 R2 R3 K T SN SZ F R2_41  hc_42) tw_18_14 tw_18_15 tw_18_16 tw_1_2 tw_18_17 hdX5_startTrial 0 rfl rfl rfl rfl ⟨Nat.le_of_ble_eq_true rfl, Nat.le_of_ble_eq_true rfl⟩ rfl hl.1 (rest := []) rfl (Nat.le_of_ble_eq_true rfl) dX5_knows_26 ⟨Nat.zero_le _, Nat.zero_le _⟩) hA hH [0, 1, 2, 3, 4, 5, 6, 7, 8, 9, 10, 11, 12, 13, 14, 15, 16, 17, 18, 19, 20, 21, 22, 23, 24, 25, 26, 27, 28, 29, 30, 31, 32, 33] [] (sC_X_X_0_33 g ad R1 R2 R3 K T SN SZ F) (sR_X_X_0_33 g ad R1 R2 R3 K T SN SZ F) nR_X_X_0_33 dj_X_X_0_33 [0, 1, 2, 3, 4, 5, 6, 7, 8, 9, 10, 11, 12, 13, 14, 15, 16, 17, 18, 19, 20, 21, 22, 23, 24, 25, 26, 27, 28, 29, 30, 31, 32, 33] nP_X_X_0_33 (sP_X_X_0_33 g ad R1 R2 R3 K T SN SZ F R1 R2_41 R3 K T SN SZ F) (fun H locs hH => ?_)
      refine lv_iconst (v := 0) hx hb dX5_knows_29 (by decide) ?_
      refine lv_istore_n (lv' := [(3, .int (0 : Int32)), (0, .ref (ad 0)), (1, .int x1), (2, .int x2)]) hx hb dX5_knows_30 rfl hl (by decide) rfl (fun ls hl => ?_)
      exact lp_31 _ x1 x2 (0 : Int32) R2_41 F _ _ ls hf hH (lv_sub hl [1, 2, 3, 0] rfl)
    · have hf := if_p hf c_40
      exact j_18 R2 F _ _ ls hf hH (lv_sub hl [0] rfl)
def fX5_dark_c45  (R1 : M2) (R2 : M2) (R3 : M2) (K : Int32) (T : M2) (SN : J2) (SZ : M2) (F : M1) : Option (Int32 × M2 × M1) := bind2 (fX5_tell (-1000000004 : Int32) R1 R2 R3 K T SN SZ F) (fun (r_11 : Int32) (F_12 : M1) => some (r_11, R2, F_12))
def fX5_dark_c37  (y1 : Int32) (R1 : M2) (R2 : M2) (R3 : M2) (K : Int32) (T : M2) (SN : J2) (SZ : M2) (F : M1) : Option (Int32 × M2 × M1) := some (y1, R2, F)
def fX5_dark_c6  : Nat → Int32 → M2 → M2 → M2 → Int32 → M2 → J2 → M2 → M1 → Option (Int32 × M2 × M1)
  | 0, _, _, _, _, _, _, _, _, _ => none
  | n + 1, y1, R1, R2, R3, K, T, SN, SZ, F => (if (200 : Int32) < y1 then fX5_dark_c45  R1 R2 R3 K T SN SZ F else (fX1_passDay R2).bind (fun (R2_15 : M2) => (if (R2_15 0 5) ≤ (R1 0 5) then letb (y1 + (1 : Int32)) (fun v_18 : Int32 => fX5_dark_c6 n v_18 R1 R2_15 R3 K T SN SZ F) else fX5_dark_c37  y1 R1 R2_15 R3 K T SN SZ F)))
def fX5_dark (R1 : M2) (R2 : M2) (R3 : M2) (K : Int32) (T : M2) (SN : J2) (SZ : M2) (F : M1) : Option (Int32 × M2 × M1) := (fX5_startTrial R1 R2 R3 K T SN SZ F).bind (fun (R2_19 : M2) => fX5_dark_c6  FU (1 : Int32) R1 R2_19 R3 K T SN SZ F)
def rmX5_dark : Room := { frames := 5, cells := 0, slots := 0, locals := 115 }
theorem hdX5_dark : yX5_dark.cls = yX5_dark.cls ∧ yX5_dark.cls ≠ "java/lang/invoke/MethodHandle" ∧ yX5_dark.cls ≠ "java/lang/invoke/VarHandle" ∧ (parseMethodDescriptor yX5_dark.desc).map (fun d => d.parameters.length) = some 0 := by decide +kernel
set_option maxHeartbeats 4000000 in
set_option maxRecDepth 100000 in
theorem kX5_dark (l : Launch) (g : Gl) (ad : Nat → Nat) (sz : Nat) (R1 : M2) (R2 : M2) (R3 : M2) (K : Int32) (T : M2) (SN : J2) (SZ : M2) (F : M1)  (r : Int32) (R2' : M2) (F' : M1)  (hf : fX5_dark R1 R2 R3 K T SN SZ F = some (r, R2', F')) : MetI l yX5_dark (Cond.code yX5_dark cX5_dark 2 (some .int) :: wsL_law) rmX5_dark [.ref (ad 0)] g (wX g ad R1 R2 R3 K T SN SZ F) sz r (wX g ad R1 R2' R3 K T SN SZ F') := by
  refine openI (by decide +kernel) (Nat.le_of_ble_eq_true rfl) ?_
  intro p e s m args below meth c A C hE hA hH ls hl
  have hl : lv_has ls 2 [(0, .ref (ad 0))] := hl
  have C : Cx p s m args meth c cX5_dark 2 (some .int) RX5 := C
  obtain ⟨hx, hb, hml, hown, hT, hr, hlk⟩ := id C
  rw [fX5_dark] at hf
  have lp_6 : ∀ (n_6 : Nat) (y1 : Int32) (R2 : M2) (F : M1) (H : Heap) (locs : List Loc) (ls : Array Slot), fX5_dark_c6  n_6 y1 R1 R2 R3 K T SN SZ F = some (r, R2', F') → Hp g A s H locs (wX g ad R1 R2 R3 K T SN SZ F) → lv_has ls 2 [(0, .ref (ad 0)), (1, .int y1)] → W p l e rmX5_dark s m args below meth c H locs 0 0 (QI g A below args s r (wX g ad R1 R2' R3 K T SN SZ F')) (F0 m 6 ls []) := by
    intro n_6
    induction n_6 with
    | zero =>
      intro y1 R2 F H locs  ls hf hH hl
      rw [fX5_dark_c6] at hf
      cases hf
    | succ n_6 ih_6 =>
      intro y1 R2 F H locs  ls hf hH hl
      rw [fX5_dark_c6] at hf
      have j_45 : ∀ (R2 : M2) (F : M1) (H : Heap) (locs : List Loc) (ls : Array Slot), fX5_dark_c45  R1 R2 R3 K T SN SZ F = some (r, R2', F') → Hp g A s H locs (wX g ad R1 R2 R3 K T SN SZ F) → lv_has ls 2 [(0, .ref (ad 0))] → W p l e rmX5_dark s m args below meth c H locs 0 0 (QI g A below args s r (wX g ad R1 R2' R3 K T SN SZ F')) (F0 m 45 ls []) := by
        intro R2 F H locs  ls hf hH hl
        rw [fX5_dark_c45] at hf
        refine lv_aload_n hx hb dX5_dark_45 rfl (lv_at hl 0 rfl) ?_
        refine lv_ldc hx hb hown (hT _ tw_19_22) dX5_dark_46 ?_
        obtain ⟨r_11, F_12, hc_13, hf⟩ := bind2_inv hf
        refine aftI (runV C hE hA hH [0, 1, 2, 3, 4, 5, 6, 7, 8, 9, 10, 11, 12, 13, 14, 15, 16, 17, 18, 19, 20, 21, 22, 23, 24, 25, 26, 27, 28, 29, 30, 31, 32, 33] nC_X_X_0_33 (sC_X_X_0_33 g ad R1 R2 R3 K T SN SZ F) (kX5_tell l g ad _ R1 R2 R3 K T SN SZ F (-1000000004 : Int32) r_11 F_12  hc_13) tw_4_17 tw_4_18 tw_4_19 tw_1_2 tw_4_20 hdX5_tell 0 rfl rfl rfl rfl ⟨Nat.le_of_ble_eq_true rfl, Nat.le_of_ble_eq_true rfl⟩ rfl hl.1 (rest := []) rfl (Nat.le_of_ble_eq_true rfl) dX5_dark_48 ⟨Nat.zero_le _, Nat.zero_le _⟩) hA hH [0, 1, 2, 3, 4, 5, 6, 7, 8, 9, 10, 11, 12, 13, 14, 15, 16, 17, 18, 19, 20, 21, 22, 23, 24, 25, 26, 27, 28, 29, 30, 31, 32, 33] [] (sC_X_X_0_33 g ad R1 R2 R3 K T SN SZ F) (sR_X_X_0_33 g ad R1 R2 R3 K T SN SZ F) nR_X_X_0_33 dj_X_X_0_33 [0, 1, 2, 3, 4, 5, 6, 7, 8, 9, 10, 11, 12, 13, 14, 15, 16, 17, 18, 19, 20, 21, 22, 23, 24, 25, 26, 27, 28, 29, 30, 31, 32, 33] nP_X_X_0_33 (sP_X_X_0_33 g ad R1 R2 R3 K T SN SZ F R1 R2 R3 K T SN SZ F_12) (fun H locs hH => ?_)
        have hf := Option.some.inj hf
        obtain ⟨h1, hf⟩ := Prod.mk.inj hf
        obtain ⟨h2, h3⟩ := Prod.mk.inj hf
        subst h1
        subst h2
        subst h3
        exact retI C hH rfl dX5_dark_51
      have j_37 : ∀ (y1 : Int32) (R2 : M2) (F : M1) (H : Heap) (locs : List Loc) (ls : Array Slot), fX5_dark_c37  y1 R1 R2 R3 K T SN SZ F = some (r, R2', F') → Hp g A s H locs (wX g ad R1 R2 R3 K T SN SZ F) → lv_has ls 2 [(1, .int y1)] → W p l e rmX5_dark s m args below meth c H locs 0 0 (QI g A below args s r (wX g ad R1 R2' R3 K T SN SZ F')) (F0 m 37 ls []) := by
        intro y1 R2 F H locs  ls hf hH hl
        rw [fX5_dark_c37] at hf
        refine lv_iload_n hx hb dX5_dark_37 rfl (lv_at hl 0 rfl) ?_
        have hf := Option.some.inj hf
        obtain ⟨h1, hf⟩ := Prod.mk.inj hf
        obtain ⟨h2, h3⟩ := Prod.mk.inj hf
        subst h1
        subst h2
        subst h3
        exact retI C hH rfl dX5_dark_38
      refine lv_iload_n hx hb dX5_dark_6 rfl (lv_at hl 1 rfl) ?_
      refine lv_sipush (v := 200) hx hb dX5_dark_7 (by decide) ?_
      refine lv_icmp_gt (tgt := 45) hx hb dX5_dark_10 (by decide) (fun c_14 => ?_) (fun c_14 => ?_)
      · have hf := if_p hf c_14
        exact j_45 R2 F _ _ ls hf hH (lv_sub hl [0] rfl)
      · have hf := if_n hf c_14
        refine lv_aload_n hx hb dX5_dark_13 rfl (lv_at hl 0 rfl) ?_
        refine gf_RX5_16 C hE hH 0 rfl rfl dX5_dark_14 ?_
        obtain ⟨R2_15, hc_16, hf⟩ := bind_inv hf
        refine aftV (runV C hE hA hH [8, 9, 10, 11, 12, 13, 14] nC_X_L_8_14 (sC_X_L_8_14 g ad R1 R2 R3 K T SN SZ F) (kX1_passDay l g (fun k => ad (8 + k)) _ R2 R2_15  hc_16) tw_20_17 tw_14_6 tw_14_7 tw_1_15 tw_14_8 hdX1_passDay 8 rfl rfl rfl rfl ⟨Nat.le_of_ble_eq_true rfl, Nat.le_of_ble_eq_true rfl⟩ rfl hl.1 (rest := []) rfl (Nat.le_of_ble_eq_true rfl) dX5_dark_17 ⟨Nat.zero_le _, Nat.zero_le _⟩) hA hH [8, 9, 10, 11, 12, 13, 14] [0, 1, 2, 3, 4, 5, 6, 7, 15, 16, 17, 18, 19, 20, 21, 22, 23, 24, 25, 26, 27, 28, 29, 30, 31, 32, 33] (sC_X_L_8_14 g ad R1 R2 R3 K T SN SZ F) (sR_X_L_8_14 g ad R1 R2 R3 K T SN SZ F) nR_X_L_8_14 dj_X_L_8_14 [0, 1, 2, 3, 4, 5, 6, 7, 27, 28, 29, 30, 31, 32, 33, 8, 9, 10, 11, 12, 13, 14, 15, 16, 17, 18, 19, 20, 21, 22, 23, 24, 25, 26] nP_X_L_8_14 (sP_X_L_8_14 g ad R1 R2 R3 K T SN SZ F R2_15) (fun H locs hH => ?_)
        refine lv_aload_n hx hb dX5_dark_20 rfl (lv_at hl 0 rfl) ?_
        refine gf_RX5_16 C hE hH 0 rfl rfl dX5_dark_21 ?_
        refine gf_RX5_159 C hE hH 8 rfl rfl dX5_dark_24 ?_
        refine lv_aload_n hx hb dX5_dark_27 rfl (lv_at hl 0 rfl) ?_
        refine gf_RX5_10 C hE hH 0 rfl rfl dX5_dark_28 ?_
        refine gf_RX5_159 C hE hH 1 rfl rfl dX5_dark_31 ?_
        refine lv_icmp_le (tgt := 39) hx hb dX5_dark_34 (by decide) (fun c_17 => ?_) (fun c_17 => ?_)
        · have hf := if_p hf c_17
          obtain ⟨v_18, ev_18⟩ : ∃ z : Int32, z = y1 + (1 : Int32) := ⟨_, rfl⟩
          have hf := letb_at hf v_18 ev_18
          refine lv_iinc (v := v_18) (lv' := [(1, .int v_18), (0, .ref (ad 0))]) hx hb dX5_dark_39 hl (k := 1) rfl (by rw [ev_18]; rfl) (by decide) rfl (fun ls hl => ?_)
          refine lv_goto (tgt := 6) hx hb dX5_dark_42 (by decide) ?_
          exact ih_6 v_18 R2_15 F _ _ ls hf hH (lv_sub hl [1, 0] rfl)
        · have hf := if_n hf c_17
          exact j_37 y1 R2_15 F _ _ ls hf hH (lv_sub hl [1] rfl)
  refine lv_aload_n hx hb dX5_dark_0 rfl (lv_at hl 0 rfl) ?_
  obtain ⟨R2_19, hc_20, hf⟩ := bind_inv hf
  refine aftV (runV C hE hA hH [0, 1, 2, 3, 4, 5, 6, 7, 8, 9, 10, 11, 12, 13, 14, 15, 16, 17, 18, 19, 20, 21, 22, 23, 24, 25, 26, 27, 28, 29, 30, 31, 32, 33] nC_X_X_0_33 (sC_X_X_0_33 g ad R1 R2 R3 K T SN SZ F) (kX5_startTrial l g ad _ R1 R2 R3 K T SN SZ F R2_19  hc_20) tw_18_14 tw_18_15 tw_18_16 tw_1_2 tw_18_17 hdX5_startTrial 0 rfl rfl rfl rfl ⟨Nat.le_of_ble_eq_true rfl, Nat.le_of_ble_eq_true rfl⟩ rfl hl.1 (rest := []) rfl (Nat.le_of_ble_eq_true rfl) dX5_dark_1 ⟨Nat.zero_le _, Nat.zero_le _⟩) hA hH [0, 1, 2, 3, 4, 5, 6, 7, 8, 9, 10, 11, 12, 13, 14, 15, 16, 17, 18, 19, 20, 21, 22, 23, 24, 25, 26, 27, 28, 29, 30, 31, 32, 33] [] (sC_X_X_0_33 g ad R1 R2 R3 K T SN SZ F) (sR_X_X_0_33 g ad R1 R2 R3 K T SN SZ F) nR_X_X_0_33 dj_X_X_0_33 [0, 1, 2, 3, 4, 5, 6, 7, 8, 9, 10, 11, 12, 13, 14, 15, 16, 17, 18, 19, 20, 21, 22, 23, 24, 25, 26, 27, 28, 29, 30, 31, 32, 33] nP_X_X_0_33 (sP_X_X_0_33 g ad R1 R2 R3 K T SN SZ F R1 R2_19 R3 K T SN SZ F) (fun H locs hH => ?_)
  refine lv_iconst (v := 1) hx hb dX5_dark_4 (by decide) ?_
  refine lv_istore_n (lv' := [(1, .int (1 : Int32)), (0, .ref (ad 0))]) hx hb dX5_dark_5 rfl hl (by decide) rfl (fun ls hl => ?_)
  exact lp_6 _ (1 : Int32) R2_19 F _ _ ls hf hH (lv_sub hl [1, 0] rfl)
def fX5_meet_c27  (R1 : M2) (R2 : M2) (R3 : M2) (K : Int32) (T : M2) (SN : J2) (SZ : M2) (F : M1) : Option (Int32 × M2 × M1) := bind2 (fX5_tell (-1000000001 : Int32) R1 R2 R3 K T SN SZ F) (fun (r_23 : Int32) (F_24 : M1) => some (r_23, R2, F_24))
def fX5_meet_c74  (R1 : M2) (R2 : M2) (R3 : M2) (K : Int32) (T : M2) (SN : J2) (SZ : M2) (F : M1) : Option (Int32 × M2 × M1) := bind2 (fX5_tell (-1000000004 : Int32) R1 R2 R3 K T SN SZ F) (fun (r_26 : Int32) (F_27 : M1) => some (r_26, R2, F_27))
def fX5_meet_c66  (y3 : Int32) (R1 : M2) (R2 : M2) (R3 : M2) (K : Int32) (T : M2) (SN : J2) (SZ : M2) (F : M1) : Option (Int32 × M2 × M1) := some (y3, R2, F)
def fX5_meet_c40  : Nat → Int32 → Int32 → Int32 → M2 → M2 → M2 → Int32 → M2 → J2 → M2 → M1 → Option (Int32 × M2 × M1)
  | 0, _, _, _, _, _, _, _, _, _, _, _ => none
  | n + 1, y1, y2, y3, R1, R2, R3, K, T, SN, SZ, F => (if (200 : Int32) < y3 then fX5_meet_c74  R1 R2 R3 K T SN SZ F else (fX1_passDay R2).bind (fun (R2_30 : M2) => (fX1_haveJustMet y1 y2 R2_30).bind (fun (r_32 : Int32) => (if r_32 = 0 then letb (y3 + (1 : Int32)) (fun v_35 : Int32 => fX5_meet_c40 n y1 y2 v_35 R1 R2_30 R3 K T SN SZ F) else fX5_meet_c66  y3 R1 R2_30 R3 K T SN SZ F))))
def fX5_meet (x1 : Int32) (x2 : Int32) (R1 : M2) (R2 : M2) (R3 : M2) (K : Int32) (T : M2) (SN : J2) (SZ : M2) (F : M1) : Option (Int32 × M2 × M1) := (fX1_hasKeeper x1 R1).bind (fun (r_36 : Int32) => (if r_36 = 0 then fX5_meet_c27  R1 R2 R3 K T SN SZ F else (fX1_hasKeeper x2 R1).bind (fun (r_39 : Int32) => (if r_39 = 0 then fX5_meet_c27  R1 R2 R3 K T SN SZ F else (if x1 = x2 then fX5_meet_c27  R1 R2 R3 K T SN SZ F else (fX5_startTrial R1 R2 R3 K T SN SZ F).bind (fun (R2_43 : M2) => fX5_meet_c40  FU x1 x2 (1 : Int32) R1 R2_43 R3 K T SN SZ F))))))
def rmX5_meet : Room := { frames := 5, cells := 0, slots := 0, locals := 115 }
theorem hdX5_meet : yX5_meet.cls = yX5_meet.cls ∧ yX5_meet.cls ≠ "java/lang/invoke/MethodHandle" ∧ yX5_meet.cls ≠ "java/lang/invoke/VarHandle" ∧ (parseMethodDescriptor yX5_meet.desc).map (fun d => d.parameters.length) = some 2 := by decide +kernel
set_option maxHeartbeats 4000000 in
set_option maxRecDepth 100000 in
theorem kX5_meet (l : Launch) (g : Gl) (ad : Nat → Nat) (sz : Nat) (R1 : M2) (R2 : M2) (R3 : M2) (K : Int32) (T : M2) (SN : J2) (SZ : M2) (F : M1) (x1 : Int32) (x2 : Int32) (r : Int32) (R2' : M2) (F' : M1)  (hf : fX5_meet x1 x2 R1 R2 R3 K T SN SZ F = some (r, R2', F')) : MetI l yX5_meet (Cond.code yX5_meet cX5_meet 4 (some .int) :: wsL_law) rmX5_meet [.ref (ad 0), .int x1, .int x2] g (wX g ad R1 R2 R3 K T SN SZ F) sz r (wX g ad R1 R2' R3 K T SN SZ F') := by
  refine openI (by decide +kernel) (Nat.le_of_ble_eq_true rfl) ?_
  intro p e s m args below meth c A C hE hA hH ls hl
  have hl : lv_has ls 4 [(0, .ref (ad 0)), (1, .int x1), (2, .int x2)] := hl
  have C : Cx p s m args meth c cX5_meet 4 (some .int) RX5 := C
  obtain ⟨hx, hb, hml, hown, hT, hr, hlk⟩ := id C
  rw [fX5_meet] at hf
  have j_27 : ∀ (R2 : M2) (F : M1) (H : Heap) (locs : List Loc) (ls : Array Slot), fX5_meet_c27  R1 R2 R3 K T SN SZ F = some (r, R2', F') → Hp g A s H locs (wX g ad R1 R2 R3 K T SN SZ F) → lv_has ls 4 [(0, .ref (ad 0))] → W p l e rmX5_meet s m args below meth c H locs 0 0 (QI g A below args s r (wX g ad R1 R2' R3 K T SN SZ F')) (F0 m 27 ls []) := by
    intro R2 F H locs  ls hf hH hl
    rw [fX5_meet_c27] at hf
    refine lv_aload_n hx hb dX5_meet_27 rfl (lv_at hl 0 rfl) ?_
    refine lv_ldc hx hb hown (hT _ tw_4_12) dX5_meet_28 ?_
    obtain ⟨r_23, F_24, hc_25, hf⟩ := bind2_inv hf
    refine aftI (runV C hE hA hH [0, 1, 2, 3, 4, 5, 6, 7, 8, 9, 10, 11, 12, 13, 14, 15, 16, 17, 18, 19, 20, 21, 22, 23, 24, 25, 26, 27, 28, 29, 30, 31, 32, 33] nC_X_X_0_33 (sC_X_X_0_33 g ad R1 R2 R3 K T SN SZ F) (kX5_tell l g ad _ R1 R2 R3 K T SN SZ F (-1000000001 : Int32) r_23 F_24  hc_25) tw_4_17 tw_4_18 tw_4_19 tw_1_2 tw_4_20 hdX5_tell 0 rfl rfl rfl rfl ⟨Nat.le_of_ble_eq_true rfl, Nat.le_of_ble_eq_true rfl⟩ rfl hl.1 (rest := []) rfl (Nat.le_of_ble_eq_true rfl) dX5_meet_30 ⟨Nat.zero_le _, Nat.zero_le _⟩) hA hH [0, 1, 2, 3, 4, 5, 6, 7, 8, 9, 10, 11, 12, 13, 14, 15, 16, 17, 18, 19, 20, 21, 22, 23, 24, 25, 26, 27, 28, 29, 30, 31, 32, 33] [] (sC_X_X_0_33 g ad R1 R2 R3 K T SN SZ F) (sR_X_X_0_33 g ad R1 R2 R3 K T SN SZ F) nR_X_X_0_33 dj_X_X_0_33 [0, 1, 2, 3, 4, 5, 6, 7, 8, 9, 10, 11, 12, 13, 14, 15, 16, 17, 18, 19, 20, 21, 22, 23, 24, 25, 26, 27, 28, 29, 30, 31, 32, 33] nP_X_X_0_33 (sP_X_X_0_33 g ad R1 R2 R3 K T SN SZ F R1 R2 R3 K T SN SZ F_24) (fun H locs hH => ?_)
    have hf := Option.some.inj hf
    obtain ⟨h1, hf⟩ := Prod.mk.inj hf
    obtain ⟨h2, h3⟩ := Prod.mk.inj hf
    subst h1
    subst h2
    subst h3
    exact retI C hH rfl dX5_meet_33
  have lp_40 : ∀ (n_40 : Nat) (y1 : Int32) (y2 : Int32) (y3 : Int32) (R2 : M2) (F : M1) (H : Heap) (locs : List Loc) (ls : Array Slot), fX5_meet_c40  n_40 y1 y2 y3 R1 R2 R3 K T SN SZ F = some (r, R2', F') → Hp g A s H locs (wX g ad R1 R2 R3 K T SN SZ F) → lv_has ls 4 [(0, .ref (ad 0)), (1, .int y1), (2, .int y2), (3, .int y3)] → W p l e rmX5_meet s m args below meth c H locs 0 0 (QI g A below args s r (wX g ad R1 R2' R3 K T SN SZ F')) (F0 m 40 ls []) := by
    intro n_40
    induction n_40 with
    | zero =>
      intro y1 y2 y3 R2 F H locs  ls hf hH hl
      rw [fX5_meet_c40] at hf
      cases hf
    | succ n_40 ih_40 =>
      intro y1 y2 y3 R2 F H locs  ls hf hH hl
      rw [fX5_meet_c40] at hf
      have j_74 : ∀ (R2 : M2) (F : M1) (H : Heap) (locs : List Loc) (ls : Array Slot), fX5_meet_c74  R1 R2 R3 K T SN SZ F = some (r, R2', F') → Hp g A s H locs (wX g ad R1 R2 R3 K T SN SZ F) → lv_has ls 4 [(0, .ref (ad 0))] → W p l e rmX5_meet s m args below meth c H locs 0 0 (QI g A below args s r (wX g ad R1 R2' R3 K T SN SZ F')) (F0 m 74 ls []) := by
        intro R2 F H locs  ls hf hH hl
        rw [fX5_meet_c74] at hf
        refine lv_aload_n hx hb dX5_meet_74 rfl (lv_at hl 0 rfl) ?_
        refine lv_ldc hx hb hown (hT _ tw_19_22) dX5_meet_75 ?_
        obtain ⟨r_26, F_27, hc_28, hf⟩ := bind2_inv hf
        refine aftI (runV C hE hA hH [0, 1, 2, 3, 4, 5, 6, 7, 8, 9, 10, 11, 12, 13, 14, 15, 16, 17, 18, 19, 20, 21, 22, 23, 24, 25, 26, 27, 28, 29, 30, 31, 32, 33] nC_X_X_0_33 (sC_X_X_0_33 g ad R1 R2 R3 K T SN SZ F) (kX5_tell l g ad _ R1 R2 R3 K T SN SZ F (-1000000004 : Int32) r_26 F_27  hc_28) tw_4_17 tw_4_18 tw_4_19 tw_1_2 tw_4_20 hdX5_tell 0 rfl rfl rfl rfl ⟨Nat.le_of_ble_eq_true rfl, Nat.le_of_ble_eq_true rfl⟩ rfl hl.1 (rest := []) rfl (Nat.le_of_ble_eq_true rfl) dX5_meet_77 ⟨Nat.zero_le _, Nat.zero_le _⟩) hA hH [0, 1, 2, 3, 4, 5, 6, 7, 8, 9, 10, 11, 12, 13, 14, 15, 16, 17, 18, 19, 20, 21, 22, 23, 24, 25, 26, 27, 28, 29, 30, 31, 32, 33] [] (sC_X_X_0_33 g ad R1 R2 R3 K T SN SZ F) (sR_X_X_0_33 g ad R1 R2 R3 K T SN SZ F) nR_X_X_0_33 dj_X_X_0_33 [0, 1, 2, 3, 4, 5, 6, 7, 8, 9, 10, 11, 12, 13, 14, 15, 16, 17, 18, 19, 20, 21, 22, 23, 24, 25, 26, 27, 28, 29, 30, 31, 32, 33] nP_X_X_0_33 (sP_X_X_0_33 g ad R1 R2 R3 K T SN SZ F R1 R2 R3 K T SN SZ F_27) (fun H locs hH => ?_)
        have hf := Option.some.inj hf
        obtain ⟨h1, hf⟩ := Prod.mk.inj hf
        obtain ⟨h2, h3⟩ := Prod.mk.inj hf
        subst h1
        subst h2
        subst h3
        exact retI C hH rfl dX5_meet_80
      have j_66 : ∀ (y3 : Int32) (R2 : M2) (F : M1) (H : Heap) (locs : List Loc) (ls : Array Slot), fX5_meet_c66  y3 R1 R2 R3 K T SN SZ F = some (r, R2', F') → Hp g A s H locs (wX g ad R1 R2 R3 K T SN SZ F) → lv_has ls 4 [(3, .int y3)] → W p l e rmX5_meet s m args below meth c H locs 0 0 (QI g A below args s r (wX g ad R1 R2' R3 K T SN SZ F')) (F0 m 66 ls []) := by
        intro y3 R2 F H locs  ls hf hH hl
        rw [fX5_meet_c66] at hf
        refine lv_iload_n hx hb dX5_meet_66 rfl (lv_at hl 0 rfl) ?_
        have hf := Option.some.inj hf
        obtain ⟨h1, hf⟩ := Prod.mk.inj hf
        obtain ⟨h2, h3⟩ := Prod.mk.inj hf
        subst h1
        subst h2
        subst h3
        exact retI C hH rfl dX5_meet_67
      refine lv_iload_n hx hb dX5_meet_40 rfl (lv_at hl 3 rfl) ?_
      refine lv_sipush (v := 200) hx hb dX5_meet_41 (by decide) ?_
      refine lv_icmp_gt (tgt := 74) hx hb dX5_meet_44 (by decide) (fun c_29 => ?_) (fun c_29 => ?_)
      · have hf := if_p hf c_29
        exact j_74 R2 F _ _ ls hf hH (lv_sub hl [0] rfl)
      · have hf := if_n hf c_29
        refine lv_aload_n hx hb dX5_meet_47 rfl (lv_at hl 0 rfl) ?_
        refine gf_RX5_16 C hE hH 0 rfl rfl dX5_meet_48 ?_
        obtain ⟨R2_30, hc_31, hf⟩ := bind_inv hf
        refine aftV (runV C hE hA hH [8, 9, 10, 11, 12, 13, 14] nC_X_L_8_14 (sC_X_L_8_14 g ad R1 R2 R3 K T SN SZ F) (kX1_passDay l g (fun k => ad (8 + k)) _ R2 R2_30  hc_31) tw_20_17 tw_14_6 tw_14_7 tw_1_15 tw_14_8 hdX1_passDay 8 rfl rfl rfl rfl ⟨Nat.le_of_ble_eq_true rfl, Nat.le_of_ble_eq_true rfl⟩ rfl hl.1 (rest := []) rfl (Nat.le_of_ble_eq_true rfl) dX5_meet_51 ⟨Nat.zero_le _, Nat.zero_le _⟩) hA hH [8, 9, 10, 11, 12, 13, 14] [0, 1, 2, 3, 4, 5, 6, 7, 15, 16, 17, 18, 19, 20, 21, 22, 23, 24, 25, 26, 27, 28, 29, 30, 31, 32, 33] (sC_X_L_8_14 g ad R1 R2 R3 K T SN SZ F) (sR_X_L_8_14 g ad R1 R2 R3 K T SN SZ F) nR_X_L_8_14 dj_X_L_8_14 [0, 1, 2, 3, 4, 5, 6, 7, 27, 28, 29, 30, 31, 32, 33, 8, 9, 10, 11, 12, 13, 14, 15, 16, 17, 18, 19, 20, 21, 22, 23, 24, 25, 26] nP_X_L_8_14 (sP_X_L_8_14 g ad R1 R2 R3 K T SN SZ F R2_30) (fun H locs hH => ?_)
        refine lv_aload_n hx hb dX5_meet_54 rfl (lv_at hl 0 rfl) ?_
        refine gf_RX5_16 C hE hH 0 rfl rfl dX5_meet_55 ?_
        refine lv_iload_n hx hb dX5_meet_58 rfl (lv_at hl 1 rfl) ?_
        refine lv_iload_n hx hb dX5_meet_59 rfl (lv_at hl 2 rfl) ?_
        obtain ⟨r_32, hc_33, hf⟩ := bind_inv hf
        refine aftPI (runV C hE hA hH [8, 9, 10, 11, 12, 13, 14] nC_X_L_8_14 (sC_X_L_8_14 g ad R1 R2_30 R3 K T SN SZ F) (kX1_haveJustMet l g (fun k => ad (8 + k)) _ R2_30 y1 y2 r_32  hc_33) tw_22_1 tw_22_2 tw_22_3 tw_1_15 tw_22_4 hdX1_haveJustMet 8 rfl rfl rfl rfl ⟨Nat.le_of_ble_eq_true rfl, Nat.le_of_ble_eq_true rfl⟩ rfl hl.1 (rest := []) rfl (Nat.le_of_ble_eq_true rfl) dX5_meet_60 ⟨Nat.zero_le _, Nat.zero_le _⟩) ?_
        refine lv_if_eq (tgt := 68) hx hb dX5_meet_63 (by decide) (fun c_34 => ?_) (fun c_34 => ?_)
        · have hf := if_p hf c_34
          obtain ⟨v_35, ev_35⟩ : ∃ z : Int32, z = y3 + (1 : Int32) := ⟨_, rfl⟩
          have hf := letb_at hf v_35 ev_35
          refine lv_iinc (v := v_35) (lv' := [(3, .int v_35), (0, .ref (ad 0)), (1, .int y1), (2, .int y2)]) hx hb dX5_meet_68 hl (k := 3) rfl (by rw [ev_35]; rfl) (by decide) rfl (fun ls hl => ?_)
          refine lv_goto (tgt := 40) hx hb dX5_meet_71 (by decide) ?_
          exact ih_40 y1 y2 v_35 R2_30 F _ _ ls hf hH (lv_sub hl [1, 2, 3, 0] rfl)
        · have hf := if_n hf c_34
          exact j_66 y3 R2_30 F _ _ ls hf hH (lv_sub hl [3] rfl)
  refine lv_aload_n hx hb dX5_meet_0 rfl (lv_at hl 0 rfl) ?_
  refine gf_RX5_10 C hE hH 0 rfl rfl dX5_meet_1 ?_
  refine lv_iload_n hx hb dX5_meet_4 rfl (lv_at hl 1 rfl) ?_
  obtain ⟨r_36, hc_37, hf⟩ := bind_inv hf
  refine aftPI (runV C hE hA hH [1, 2, 3, 4, 5, 6, 7] nC_X_L_1_7 (sC_X_L_1_7 g ad R1 R2 R3 K T SN SZ F) (kX1_hasKeeper l g (fun k => ad (1 + k)) _ R1 x1 r_36  hc_37) tw_9_6 tw_9_7 tw_9_8 tw_1_15 tw_9_9 hdX1_hasKeeper 1 rfl rfl rfl rfl ⟨Nat.le_of_ble_eq_true rfl, Nat.le_of_ble_eq_true rfl⟩ rfl hl.1 (rest := []) rfl (Nat.le_of_ble_eq_true rfl) dX5_meet_5 ⟨Nat.zero_le _, Nat.zero_le _⟩) ?_
  refine lv_if_eq (tgt := 27) hx hb dX5_meet_8 (by decide) (fun c_38 => ?_) (fun c_38 => ?_)
  · have hf := if_p hf c_38
    exact j_27 R2 F _ _ ls hf hH (lv_sub hl [0] rfl)
  · have hf := if_n hf c_38
    refine lv_aload_n hx hb dX5_meet_11 rfl (lv_at hl 0 rfl) ?_
    refine gf_RX5_10 C hE hH 0 rfl rfl dX5_meet_12 ?_
    refine lv_iload_n hx hb dX5_meet_15 rfl (lv_at hl 2 rfl) ?_
    obtain ⟨r_39, hc_40, hf⟩ := bind_inv hf
    refine aftPI (runV C hE hA hH [1, 2, 3, 4, 5, 6, 7] nC_X_L_1_7 (sC_X_L_1_7 g ad R1 R2 R3 K T SN SZ F) (kX1_hasKeeper l g (fun k => ad (1 + k)) _ R1 x2 r_39  hc_40) tw_9_6 tw_9_7 tw_9_8 tw_1_15 tw_9_9 hdX1_hasKeeper 1 rfl rfl rfl rfl ⟨Nat.le_of_ble_eq_true rfl, Nat.le_of_ble_eq_true rfl⟩ rfl hl.1 (rest := []) rfl (Nat.le_of_ble_eq_true rfl) dX5_meet_16 ⟨Nat.zero_le _, Nat.zero_le _⟩) ?_
    refine lv_if_eq (tgt := 27) hx hb dX5_meet_19 (by decide) (fun c_41 => ?_) (fun c_41 => ?_)
    · have hf := if_p hf c_41
      exact j_27 R2 F _ _ ls hf hH (lv_sub hl [0] rfl)
    · have hf := if_n hf c_41
      refine lv_iload_n hx hb dX5_meet_22 rfl (lv_at hl 1 rfl) ?_
      refine lv_iload_n hx hb dX5_meet_23 rfl (lv_at hl 2 rfl) ?_
      refine lv_icmp_ne (tgt := 34) hx hb dX5_meet_24 (by decide) (fun c_42 => ?_) (fun c_42 => ?_)
      · have hf := if_n hf c_42
        refine lv_aload_n hx hb dX5_meet_34 rfl (lv_at hl 0 rfl) ?_
        obtain ⟨R2_43, hc_44, hf⟩ := bind_inv hf
        refine aftV (runV C hE hA hH [0, 1, 2, 3, 4, 5, 6, 7, 8, 9, 10, 11, 12, 13, 14, 15, 16, 17, 18, 19, 20, 21, 22, 23, 24, 25, 26, 27, 28, 29, 30, 31, 32, 33] nC_X_X_0_33 (sC_X_X_0_33 g ad R1 R2 R3 K T SN SZ F) (kX5_startTrial l g ad _ R1 R2 R3 K T SN SZ F R2_43  hc_44) tw_18_14 tw_18_15 tw_18_16 tw_1_2 tw_18_17 hdX5_startTrial 0 rfl rfl rfl rfl ⟨Nat.le_of_ble_eq_true rfl, Nat.le_of_ble_eq_true rfl⟩ rfl hl.1 (rest := []) rfl (Nat.le_of_ble_eq_true rfl) dX5_meet_35 ⟨Nat.zero_le _, Nat.zero_le _⟩) hA hH [0, 1, 2, 3, 4, 5, 6, 7, 8, 9, 10, 11, 12, 13, 14, 15, 16, 17, 18, 19, 20, 21, 22, 23, 24, 25, 26, 27, 28, 29, 30, 31, 32, 33] [] (sC_X_X_0_33 g ad R1 R2 R3 K T SN SZ F) (sR_X_X_0_33 g ad R1 R2 R3 K T SN SZ F) nR_X_X_0_33 dj_X_X_0_33 [0, 1, 2, 3, 4, 5, 6, 7, 8, 9, 10, 11, 12, 13, 14, 15, 16, 17, 18, 19, 20, 21, 22, 23, 24, 25, 26, 27, 28, 29, 30, 31, 32, 33] nP_X_X_0_33 (sP_X_X_0_33 g ad R1 R2 R3 K T SN SZ F R1 R2_43 R3 K T SN SZ F) (fun H locs hH => ?_)
        refine lv_iconst (v := 1) hx hb dX5_meet_38 (by decide) ?_
        refine lv_istore_n (lv' := [(3, .int (1 : Int32)), (0, .ref (ad 0)), (1, .int x1), (2, .int x2)]) hx hb dX5_meet_39 rfl hl (by decide) rfl (fun ls hl => ?_)
        exact lp_40 _ x1 x2 (1 : Int32) R2_43 F _ _ ls hf hH (lv_sub hl [1, 2, 3, 0] rfl)
      · have hf := if_p hf c_42
        exact j_27 R2 F _ _ ls hf hH (lv_sub hl [0] rfl)
