def fX6_days (x1 : Int32) (G : M2) (J : J2) : Option (Int32 × M2) := (fX6_in x1 (1 : Int32) (100 : Int32)).bind (fun (r_16 : Int32) => (if r_16 = 0 then bind2 (fX6_finds (-1000000001 : Int32) G J) (fun (r_28 : Int32) (G_29 : M2) => some (r_28, G_29)) else grd (inb (0 : Int32) 75) ((if ((G 1 (0 : Int32).toNatClampNeg) + x1) ≤ (9999 : Int32) then (fX6_passes x1 G J).bind (fun (G_21 : M2) => (fX6_onSet G_21 J).bind (fun (r_23 : Int32) => some (r_23, G_21))) else bind2 (fX6_finds (-1000000005 : Int32) G J) (fun (r_25 : Int32) (G_26 : M2) => some (r_25, G_26))))))
def rmX6_days : Room := { frames := 7, cells := 0, slots := 0, locals := 154 }
theorem hdX6_days : yX6_days.cls = yX6_days.cls ∧ yX6_days.cls ≠ "java/lang/invoke/MethodHandle" ∧ yX6_days.cls ≠ "java/lang/invoke/VarHandle" ∧ (parseMethodDescriptor yX6_days.desc).map (fun d => d.parameters.length) = some 1 := by decide +kernel
set_option maxHeartbeats 4000000 in
set_option maxRecDepth 100000 in
theorem kX6_days (l : Launch) (g : Gl) (ad : Nat → Nat) (sz : Nat) (G : M2) (J : J2) (x1 : Int32) (r : Int32) (G' : M2)  (hf : fX6_days x1 G J = some (r, G')) : MetI l yX6_days (Cond.code yX6_days cX6_days 2 (some .int) :: wsL_law) rmX6_days [.ref (ad 0), .int x1] g (wM g ad G J) sz r (wM g ad G' J) := by
  refine openI (by decide +kernel) (Nat.le_of_ble_eq_true rfl) ?_
  intro p e s m args below meth c A C hE hA hH ls hl
  have hl : lv_has ls 2 [(0, .ref (ad 0)), (1, .int x1)] := hl
  have C : Cx p s m args meth c cX6_days 2 (some .int) RX6 := C
  obtain ⟨hx, hb, hml, hown, hT, hr, hlk⟩ := id C
  rw [fX6_days] at hf
  refine lv_iload_n hx hb dX6_days_0 rfl (lv_at hl 1 rfl) ?_
  refine lv_iconst (v := 1) hx hb dX6_days_1 (by decide) ?_
  refine lv_bipush (v := 100) hx hb dX6_days_2 (by decide) ?_
  obtain ⟨r_16, hc_17, hf⟩ := bind_inv hf
  refine aftPI (runS C hE hA hH [] rfl rfl (kX6_in l g ad _ x1 (1 : Int32) (100 : Int32) r_16  hc_17) tw_5_2 tw_5_3 tw_1_5 tw_5_4 hdX6_in rfl rfl ⟨Nat.le_of_ble_eq_true rfl, Nat.le_of_ble_eq_true rfl⟩ rfl hl.1 (rest := []) rfl (Nat.le_of_ble_eq_true rfl) dX6_days_4 ⟨Nat.zero_le _, Nat.zero_le _⟩) ?_
  refine lv_if_ne (tgt := 17) hx hb dX6_days_7 (by decide) (fun c_18 => ?_) (fun c_18 => ?_)
  · have hf := if_n hf c_18
    refine lv_aload_n hx hb dX6_days_17 rfl (lv_at hl 0 rfl) ?_
    refine gf_RX6_7 C hE hH 0 rfl rfl dX6_days_18 ?_
    refine lv_iconst (v := 0) hx hb dX6_days_21 (by decide) ?_
    obtain ⟨hi_19, hf⟩ := grd_inv hf
    refine xiald C hE hH 1 rfl hi_19 dX6_days_22 ?_
    refine lv_iload_n hx hb dX6_days_23 rfl (lv_at hl 1 rfl) ?_
    refine lv_iadd hx hb dX6_days_24 ?_
    refine lv_sipush (v := 9999) hx hb dX6_days_25 (by decide) ?_
    refine lv_icmp_le (tgt := 38) hx hb dX6_days_28 (by decide) (fun c_20 => ?_) (fun c_20 => ?_)
    · have hf := if_p hf c_20
      refine lv_aload_n hx hb dX6_days_38 rfl (lv_at hl 0 rfl) ?_
      refine lv_iload_n hx hb dX6_days_39 rfl (lv_at hl 1 rfl) ?_
      obtain ⟨G_21, hc_22, hf⟩ := bind_inv hf
      refine aftV (runV C hE hA hH [0, 1, 2, 3, 4, 5, 6, 7, 8, 9, 10, 11] nC_M_M_0_11 (sC_M_M_0_11 g ad G J) (kX6_passes l g ad _ G J x1 G_21  hc_22) tw_16_9 tw_16_10 tw_16_11 tw_1_5 tw_16_12 hdX6_passes 0 rfl rfl rfl rfl ⟨Nat.le_of_ble_eq_true rfl, Nat.le_of_ble_eq_true rfl⟩ rfl hl.1 (rest := []) rfl (Nat.le_of_ble_eq_true rfl) dX6_days_40 ⟨Nat.zero_le _, Nat.zero_le _⟩) hA hH [0, 1, 2, 3, 4, 5, 6, 7, 8, 9, 10, 11] [] (sC_M_M_0_11 g ad G J) (sR_M_M_0_11 g ad G J) nR_M_M_0_11 dj_M_M_0_11 [0, 1, 2, 3, 4, 5, 6, 7, 8, 9, 10, 11] nP_M_M_0_11 (sP_M_M_0_11 g ad G J G_21 J) (fun H locs hH => ?_)
      refine lv_aload_n hx hb dX6_days_43 rfl (lv_at hl 0 rfl) ?_
      obtain ⟨r_23, hc_24, hf⟩ := bind_inv hf
      refine aftPI (runV C hE hA hH [0, 1, 2, 3, 4, 5, 6, 7, 8, 9, 10, 11] nC_M_M_0_11 (sC_M_M_0_11 g ad G_21 J) (kX6_onSet l g ad _ G_21 J r_23  hc_24) tw_17_10 tw_17_11 tw_17_12 tw_1_5 tw_17_13 hdX6_onSet 0 rfl rfl rfl rfl ⟨Nat.le_of_ble_eq_true rfl, Nat.le_of_ble_eq_true rfl⟩ rfl hl.1 (rest := []) rfl (Nat.le_of_ble_eq_true rfl) dX6_days_44 ⟨Nat.zero_le _, Nat.zero_le _⟩) ?_
      have hf := Option.some.inj hf
      obtain ⟨h1, h2⟩ := Prod.mk.inj hf
      subst h1
      subst h2
      exact retI C hH rfl dX6_days_47
    · have hf := if_n hf c_20
      refine lv_aload_n hx hb dX6_days_31 rfl (lv_at hl 0 rfl) ?_
      refine lv_ldc hx hb hown (hT _ tw_16_8) dX6_days_32 ?_
      obtain ⟨r_25, G_26, hc_27, hf⟩ := bind2_inv hf
      refine aftI (runV C hE hA hH [0, 1, 2, 3, 4, 5, 6, 7, 8, 9, 10, 11] nC_M_M_0_11 (sC_M_M_0_11 g ad G J) (kX6_finds l g ad _ G J (-1000000005 : Int32) r_25 G_26  hc_27) tw_5_9 tw_5_10 tw_5_11 tw_1_5 tw_5_12 hdX6_finds 0 rfl rfl rfl rfl ⟨Nat.le_of_ble_eq_true rfl, Nat.le_of_ble_eq_true rfl⟩ rfl hl.1 (rest := []) rfl (Nat.le_of_ble_eq_true rfl) dX6_days_34 ⟨Nat.zero_le _, Nat.zero_le _⟩) hA hH [0, 1, 2, 3, 4, 5, 6, 7, 8, 9, 10, 11] [] (sC_M_M_0_11 g ad G J) (sR_M_M_0_11 g ad G J) nR_M_M_0_11 dj_M_M_0_11 [0, 1, 2, 3, 4, 5, 6, 7, 8, 9, 10, 11] nP_M_M_0_11 (sP_M_M_0_11 g ad G J G_26 J) (fun H locs hH => ?_)
      have hf := Option.some.inj hf
      obtain ⟨h1, h2⟩ := Prod.mk.inj hf
      subst h1
      subst h2
      exact retI C hH rfl dX6_days_37
  · have hf := if_p hf c_18
    refine lv_aload_n hx hb dX6_days_10 rfl (lv_at hl 0 rfl) ?_
    refine lv_ldc hx hb hown (hT _ tw_5_1) dX6_days_11 ?_
    obtain ⟨r_28, G_29, hc_30, hf⟩ := bind2_inv hf
    refine aftI (runV C hE hA hH [0, 1, 2, 3, 4, 5, 6, 7, 8, 9, 10, 11] nC_M_M_0_11 (sC_M_M_0_11 g ad G J) (kX6_finds l g ad _ G J (-1000000001 : Int32) r_28 G_29  hc_30) tw_5_9 tw_5_10 tw_5_11 tw_1_5 tw_5_12 hdX6_finds 0 rfl rfl rfl rfl ⟨Nat.le_of_ble_eq_true rfl, Nat.le_of_ble_eq_true rfl⟩ rfl hl.1 (rest := []) rfl (Nat.le_of_ble_eq_true rfl) dX6_days_13 ⟨Nat.zero_le _, Nat.zero_le _⟩) hA hH [0, 1, 2, 3, 4, 5, 6, 7, 8, 9, 10, 11] [] (sC_M_M_0_11 g ad G J) (sR_M_M_0_11 g ad G J) nR_M_M_0_11 dj_M_M_0_11 [0, 1, 2, 3, 4, 5, 6, 7, 8, 9, 10, 11] nP_M_M_0_11 (sP_M_M_0_11 g ad G J G_29 J) (fun H locs hH => ?_)
    have hf := Option.some.inj hf
    obtain ⟨h1, h2⟩ := Prod.mk.inj hf
    subst h1
    subst h2
    exact retI C hH rfl dX6_days_16
def fX6_now_c49  (z0 : Int32) (G : M2) (J : J2) : Option (Int32 × M2) := some (z0, G)
def fX6_now (x1 : Int32) (G : M2) (J : J2) : Option (Int32 × M2) := (fX6_in x1 (0 : Int32) (7 : Int32)).bind (fun (r_14 : Int32) => (if r_14 = 0 then bind2 (fX6_finds (-1000000001 : Int32) G J) (fun (r_24 : Int32) (G_25 : M2) => some (r_24, G_25)) else (if (6 : Int32) ≤ x1 then (if x1 = (6 : Int32) then (fX6_onSet G J).bind (fun (r_21 : Int32) => fX6_now_c49  r_21 G J) else (fX6_usesAll G J).bind (fun (r_19 : Int32) => fX6_now_c49  r_19 G J)) else grd (inb x1 75) (fX6_now_c49  (G 1 x1.toNatClampNeg) G J))))
def rmX6_now : Room := { frames := 5, cells := 0, slots := 0, locals := 109 }
theorem hdX6_now : yX6_now.cls = yX6_now.cls ∧ yX6_now.cls ≠ "java/lang/invoke/MethodHandle" ∧ yX6_now.cls ≠ "java/lang/invoke/VarHandle" ∧ (parseMethodDescriptor yX6_now.desc).map (fun d => d.parameters.length) = some 1 := by decide +kernel
set_option maxHeartbeats 4000000 in
set_option maxRecDepth 100000 in
theorem kX6_now (l : Launch) (g : Gl) (ad : Nat → Nat) (sz : Nat) (G : M2) (J : J2) (x1 : Int32) (r : Int32) (G' : M2)  (hf : fX6_now x1 G J = some (r, G')) : MetI l yX6_now (Cond.code yX6_now cX6_now 2 (some .int) :: wsL_law) rmX6_now [.ref (ad 0), .int x1] g (wM g ad G J) sz r (wM g ad G' J) := by
  refine openI (by decide +kernel) (Nat.le_of_ble_eq_true rfl) ?_
  intro p e s m args below meth c A C hE hA hH ls hl
  have hl : lv_has ls 2 [(0, .ref (ad 0)), (1, .int x1)] := hl
  have C : Cx p s m args meth c cX6_now 2 (some .int) RX6 := C
  obtain ⟨hx, hb, hml, hown, hT, hr, hlk⟩ := id C
  rw [fX6_now] at hf
  have j_49 : ∀ (z0 : Int32) (G : M2) (H : Heap) (locs : List Loc) (ls : Array Slot), fX6_now_c49  z0 G J = some (r, G') → Hp g A s H locs (wM g ad G J) → lv_has ls 2 [] → W p l e rmX6_now s m args below meth c H locs 0 0 (QI g A below args s r (wM g ad G' J)) (F0 m 49 ls [.int z0]) := by
    intro z0 G H locs  ls hf hH hl
    rw [fX6_now_c49] at hf
    have hf := Option.some.inj hf
    obtain ⟨h1, h2⟩ := Prod.mk.inj hf
    subst h1
    subst h2
    exact retI C hH rfl dX6_now_49
  refine lv_iload_n hx hb dX6_now_0 rfl (lv_at hl 1 rfl) ?_
  refine lv_iconst (v := 0) hx hb dX6_now_1 (by decide) ?_
  refine lv_bipush (v := 7) hx hb dX6_now_2 (by decide) ?_
  obtain ⟨r_14, hc_15, hf⟩ := bind_inv hf
  refine aftPI (runS C hE hA hH [] rfl rfl (kX6_in l g ad _ x1 (0 : Int32) (7 : Int32) r_14  hc_15) tw_5_2 tw_5_3 tw_1_5 tw_5_4 hdX6_in rfl rfl ⟨Nat.le_of_ble_eq_true rfl, Nat.le_of_ble_eq_true rfl⟩ rfl hl.1 (rest := []) rfl (Nat.le_of_ble_eq_true rfl) dX6_now_4 ⟨Nat.zero_le _, Nat.zero_le _⟩) ?_
  refine lv_if_ne (tgt := 17) hx hb dX6_now_7 (by decide) (fun c_16 => ?_) (fun c_16 => ?_)
  · have hf := if_n hf c_16
    refine lv_iload_n hx hb dX6_now_17 rfl (lv_at hl 1 rfl) ?_
    refine lv_bipush (v := 6) hx hb dX6_now_18 (by decide) ?_
    refine lv_icmp_ge (tgt := 32) hx hb dX6_now_20 (by decide) (fun c_17 => ?_) (fun c_17 => ?_)
    · have hf := if_p hf c_17
      refine lv_iload_n hx hb dX6_now_32 rfl (lv_at hl 1 rfl) ?_
      refine lv_bipush (v := 6) hx hb dX6_now_33 (by decide) ?_
      refine lv_icmp_ne (tgt := 45) hx hb dX6_now_35 (by decide) (fun c_18 => ?_) (fun c_18 => ?_)
      · have hf := if_n hf c_18
        refine lv_aload_n hx hb dX6_now_45 rfl (lv_at hl 0 rfl) ?_
        obtain ⟨r_19, hc_20, hf⟩ := bind_inv hf
        refine aftPI (runV C hE hA hH [0, 1, 2, 3, 4, 5, 6, 7, 8, 9, 10, 11] nC_M_M_0_11 (sC_M_M_0_11 g ad G J) (kX6_usesAll l g ad _ G J r_19  hc_20) tw_16_19 tw_16_20 tw_16_21 tw_1_5 tw_16_22 hdX6_usesAll 0 rfl rfl rfl rfl ⟨Nat.le_of_ble_eq_true rfl, Nat.le_of_ble_eq_true rfl⟩ rfl hl.1 (rest := []) rfl (Nat.le_of_ble_eq_true rfl) dX6_now_46 ⟨Nat.zero_le _, Nat.zero_le _⟩) ?_
        exact j_49 r_19 G _ _ ls hf hH (lv_sub hl [] rfl)
      · have hf := if_p hf c_18
        refine lv_aload_n hx hb dX6_now_38 rfl (lv_at hl 0 rfl) ?_
        obtain ⟨r_21, hc_22, hf⟩ := bind_inv hf
        refine aftPI (runV C hE hA hH [0, 1, 2, 3, 4, 5, 6, 7, 8, 9, 10, 11] nC_M_M_0_11 (sC_M_M_0_11 g ad G J) (kX6_onSet l g ad _ G J r_21  hc_22) tw_17_10 tw_17_11 tw_17_12 tw_1_5 tw_17_13 hdX6_onSet 0 rfl rfl rfl rfl ⟨Nat.le_of_ble_eq_true rfl, Nat.le_of_ble_eq_true rfl⟩ rfl hl.1 (rest := []) rfl (Nat.le_of_ble_eq_true rfl) dX6_now_39 ⟨Nat.zero_le _, Nat.zero_le _⟩) ?_
        refine lv_goto (tgt := 49) hx hb dX6_now_42 (by decide) ?_
        exact j_49 r_21 G _ _ ls hf hH (lv_sub hl [] rfl)
    · have hf := if_n hf c_17
      refine lv_aload_n hx hb dX6_now_23 rfl (lv_at hl 0 rfl) ?_
      refine gf_RX6_7 C hE hH 0 rfl rfl dX6_now_24 ?_
      refine lv_iload_n hx hb dX6_now_27 rfl (lv_at hl 1 rfl) ?_
      obtain ⟨hi_23, hf⟩ := grd_inv hf
      refine xiald C hE hH 1 rfl hi_23 dX6_now_28 ?_
      refine lv_goto (tgt := 49) hx hb dX6_now_29 (by decide) ?_
      exact j_49 (G 1 x1.toNatClampNeg) G _ _ ls hf hH (lv_sub hl [] rfl)
  · have hf := if_p hf c_16
    refine lv_aload_n hx hb dX6_now_10 rfl (lv_at hl 0 rfl) ?_
    refine lv_ldc hx hb hown (hT _ tw_5_1) dX6_now_11 ?_
    obtain ⟨r_24, G_25, hc_26, hf⟩ := bind2_inv hf
    refine aftI (runV C hE hA hH [0, 1, 2, 3, 4, 5, 6, 7, 8, 9, 10, 11] nC_M_M_0_11 (sC_M_M_0_11 g ad G J) (kX6_finds l g ad _ G J (-1000000001 : Int32) r_24 G_25  hc_26) tw_5_9 tw_5_10 tw_5_11 tw_1_5 tw_5_12 hdX6_finds 0 rfl rfl rfl rfl ⟨Nat.le_of_ble_eq_true rfl, Nat.le_of_ble_eq_true rfl⟩ rfl hl.1 (rest := []) rfl (Nat.le_of_ble_eq_true rfl) dX6_now_13 ⟨Nat.zero_le _, Nat.zero_le _⟩) hA hH [0, 1, 2, 3, 4, 5, 6, 7, 8, 9, 10, 11] [] (sC_M_M_0_11 g ad G J) (sR_M_M_0_11 g ad G J) nR_M_M_0_11 dj_M_M_0_11 [0, 1, 2, 3, 4, 5, 6, 7, 8, 9, 10, 11] nP_M_M_0_11 (sP_M_M_0_11 g ad G J G_25 J) (fun H locs hH => ?_)
    have hf := Option.some.inj hf
    obtain ⟨h1, h2⟩ := Prod.mk.inj hf
    subst h1
    subst h2
    exact retI C hH rfl dX6_now_16
def fX6_on_c28  (G : M2) (J : J2) : Option (Int32 × M2) := bind2 (fX6_finds (-1000000001 : Int32) G J) (fun (r_23 : Int32) (G_24 : M2) => some (r_23, G_24))
def fX6_on_c69  (z0 : Int32) (z1 : Int32) (G : M2) (J : J2) : Option (Int32 × M2) := (fX6_its z1 z0 G J).bind (fun (r_26 : Int32) => (fX6_moveAll_p3 (0 : Int32) G J).bind (fun (G_28 : M2) => some (r_26, G_28)))
def fX6_on (x1 : Int32) (x2 : Int32) (x3 : Int32) (G : M2) (J : J2) : Option (Int32 × M2) := (fX6_isOne x1 G J).bind (fun (r_30 : Int32) => (if r_30 = 0 then fX6_on_c28  G J else (fX6_in x2 (0 : Int32) (200 : Int32)).bind (fun (r_33 : Int32) => (if r_33 = 0 then fX6_on_c28  G J else (fX6_in x3 (0 : Int32) (2 : Int32)).bind (fun (r_36 : Int32) => (if r_36 = 0 then fX6_on_c28  G J else (fX6_moveAll_p3 (1 : Int32) G J).bind (fun (G_39 : M2) => (fX6_passes x2 G_39 J).bind (fun (G_41 : M2) => (if x3 = 0 then fX6_on_c69  (1 : Int32) x1 G_41 J else (if x3 = (1 : Int32) then fX6_on_c69  (3 : Int32) x1 G_41 J else fX6_on_c69  (4 : Int32) x1 G_41 J))))))))))
def rmX6_on : Room := { frames := 7, cells := 0, slots := 0, locals := 154 }
theorem hdX6_on : yX6_on.cls = yX6_on.cls ∧ yX6_on.cls ≠ "java/lang/invoke/MethodHandle" ∧ yX6_on.cls ≠ "java/lang/invoke/VarHandle" ∧ (parseMethodDescriptor yX6_on.desc).map (fun d => d.parameters.length) = some 3 := by decide +kernel
set_option maxHeartbeats 4000000 in
set_option maxRecDepth 100000 in
theorem kX6_on (l : Launch) (g : Gl) (ad : Nat → Nat) (sz : Nat) (G : M2) (J : J2) (x1 : Int32) (x2 : Int32) (x3 : Int32) (r : Int32) (G' : M2)  (hf : fX6_on x1 x2 x3 G J = some (r, G')) : MetI l yX6_on (Cond.code yX6_on cX6_on 5 (some .int) :: wsL_law) rmX6_on [.ref (ad 0), .int x1, .int x2, .int x3] g (wM g ad G J) sz r (wM g ad G' J) := by
  refine openI (by decide +kernel) (Nat.le_of_ble_eq_true rfl) ?_
  intro p e s m args below meth c A C hE hA hH ls hl
  have hl : lv_has ls 5 [(0, .ref (ad 0)), (1, .int x1), (2, .int x2), (3, .int x3)] := hl
  have C : Cx p s m args meth c cX6_on 5 (some .int) RX6 := C
  obtain ⟨hx, hb, hml, hown, hT, hr, hlk⟩ := id C
  rw [fX6_on] at hf
  have j_28 : ∀ (G : M2) (H : Heap) (locs : List Loc) (ls : Array Slot), fX6_on_c28  G J = some (r, G') → Hp g A s H locs (wM g ad G J) → lv_has ls 5 [(0, .ref (ad 0))] → W p l e rmX6_on s m args below meth c H locs 0 0 (QI g A below args s r (wM g ad G' J)) (F0 m 28 ls []) := by
    intro G H locs  ls hf hH hl
    rw [fX6_on_c28] at hf
    refine lv_aload_n hx hb dX6_on_28 rfl (lv_at hl 0 rfl) ?_
    refine lv_ldc hx hb hown (hT _ tw_5_1) dX6_on_29 ?_
    obtain ⟨r_23, G_24, hc_25, hf⟩ := bind2_inv hf
    refine aftI (runV C hE hA hH [0, 1, 2, 3, 4, 5, 6, 7, 8, 9, 10, 11] nC_M_M_0_11 (sC_M_M_0_11 g ad G J) (kX6_finds l g ad _ G J (-1000000001 : Int32) r_23 G_24  hc_25) tw_5_9 tw_5_10 tw_5_11 tw_1_5 tw_5_12 hdX6_finds 0 rfl rfl rfl rfl ⟨Nat.le_of_ble_eq_true rfl, Nat.le_of_ble_eq_true rfl⟩ rfl hl.1 (rest := []) rfl (Nat.le_of_ble_eq_true rfl) dX6_on_31 ⟨Nat.zero_le _, Nat.zero_le _⟩) hA hH [0, 1, 2, 3, 4, 5, 6, 7, 8, 9, 10, 11] [] (sC_M_M_0_11 g ad G J) (sR_M_M_0_11 g ad G J) nR_M_M_0_11 dj_M_M_0_11 [0, 1, 2, 3, 4, 5, 6, 7, 8, 9, 10, 11] nP_M_M_0_11 (sP_M_M_0_11 g ad G J G_24 J) (fun H locs hH => ?_)
    have hf := Option.some.inj hf
    obtain ⟨h1, h2⟩ := Prod.mk.inj hf
    subst h1
    subst h2
    exact retI C hH rfl dX6_on_34
  have j_69 : ∀ (z0 : Int32) (z1 : Int32) (G : M2) (H : Heap) (locs : List Loc) (ls : Array Slot), fX6_on_c69  z0 z1 G J = some (r, G') → Hp g A s H locs (wM g ad G J) → lv_has ls 5 [(0, .ref (ad 0))] → W p l e rmX6_on s m args below meth c H locs 0 0 (QI g A below args s r (wM g ad G' J)) (F0 m 69 ls [.int z0, .int z1, .ref (ad 0)]) := by
    intro z0 z1 G H locs  ls hf hH hl
    rw [fX6_on_c69] at hf
    obtain ⟨r_26, hc_27, hf⟩ := bind_inv hf
    refine aftPI (runV C hE hA hH [0, 1, 2, 3, 4, 5, 6, 7, 8, 9, 10, 11] nC_M_M_0_11 (sC_M_M_0_11 g ad G J) (kX6_its l g ad _ G J z1 z0 r_26  hc_27) tw_10_14 tw_10_15 tw_10_16 tw_1_5 tw_10_17 hdX6_its 0 rfl rfl rfl rfl ⟨Nat.le_of_ble_eq_true rfl, Nat.le_of_ble_eq_true rfl⟩ rfl hl.1 (rest := []) rfl (Nat.le_of_ble_eq_true rfl) dX6_on_69 ⟨Nat.zero_le _, Nat.zero_le _⟩) ?_
    refine lv_istore (lv' := [(4, .int r_26), (0, .ref (ad 0))]) hx hb dX6_on_72 hl (by decide) rfl (fun ls hl => ?_)
    refine lv_aload_n hx hb dX6_on_74 rfl (lv_at hl 1 rfl) ?_
    refine lv_iconst (v := 0) hx hb dX6_on_75 (by decide) ?_
    refine lv_aload_n hx hb dX6_on_76 rfl (lv_at hl 1 rfl) ?_
    refine gf_RX6_16 C hE hH 0 rfl rfl dX6_on_77 ?_
    obtain ⟨G_28, hc_29, hf⟩ := bind_inv hf
    refine aftV (runV C hE hA hH [0, 1, 2, 3, 4, 5, 6, 7, 8, 9, 10, 11] nC_M_M_0_11 (sC_M_M_0_11 g ad G J) (kX6_moveAll_p3 l g ad _ G J (0 : Int32) G_28  hc_29) tw_19_6 tw_19_7 tw_19_8 tw_1_5 tw_19_9 hdX6_moveAll_p3 0 rfl rfl rfl rfl ⟨Nat.le_of_ble_eq_true rfl, Nat.le_of_ble_eq_true rfl⟩ rfl hl.1 (rest := []) rfl (Nat.le_of_ble_eq_true rfl) dX6_on_80 ⟨Nat.zero_le _, Nat.zero_le _⟩) hA hH [0, 1, 2, 3, 4, 5, 6, 7, 8, 9, 10, 11] [] (sC_M_M_0_11 g ad G J) (sR_M_M_0_11 g ad G J) nR_M_M_0_11 dj_M_M_0_11 [0, 1, 2, 3, 4, 5, 6, 7, 8, 9, 10, 11] nP_M_M_0_11 (sP_M_M_0_11 g ad G J G_28 J) (fun H locs hH => ?_)
    refine lv_iload hx hb dX6_on_83 (lv_at hl 0 rfl) ?_
    have hf := Option.some.inj hf
    obtain ⟨h1, h2⟩ := Prod.mk.inj hf
    subst h1
    subst h2
    exact retI C hH rfl dX6_on_85
  refine lv_aload_n hx hb dX6_on_0 rfl (lv_at hl 0 rfl) ?_
  refine lv_iload_n hx hb dX6_on_1 rfl (lv_at hl 1 rfl) ?_
  obtain ⟨r_30, hc_31, hf⟩ := bind_inv hf
  refine aftPI (runV C hE hA hH [0, 1, 2, 3, 4, 5, 6, 7, 8, 9, 10, 11] nC_M_M_0_11 (sC_M_M_0_11 g ad G J) (kX6_isOne l g ad _ G J x1 r_30  hc_31) tw_10_6 tw_10_7 tw_10_8 tw_1_5 tw_10_9 hdX6_isOne 0 rfl rfl rfl rfl ⟨Nat.le_of_ble_eq_true rfl, Nat.le_of_ble_eq_true rfl⟩ rfl hl.1 (rest := []) rfl (Nat.le_of_ble_eq_true rfl) dX6_on_2 ⟨Nat.zero_le _, Nat.zero_le _⟩) ?_
  refine lv_if_eq (tgt := 28) hx hb dX6_on_5 (by decide) (fun c_32 => ?_) (fun c_32 => ?_)
  · have hf := if_p hf c_32
    exact j_28 G _ _ ls hf hH (lv_sub hl [0] rfl)
  · have hf := if_n hf c_32
    refine lv_iload_n hx hb dX6_on_8 rfl (lv_at hl 2 rfl) ?_
    refine lv_iconst (v := 0) hx hb dX6_on_9 (by decide) ?_
    refine lv_sipush (v := 200) hx hb dX6_on_10 (by decide) ?_
    obtain ⟨r_33, hc_34, hf⟩ := bind_inv hf
    refine aftPI (runS C hE hA hH [] rfl rfl (kX6_in l g ad _ x2 (0 : Int32) (200 : Int32) r_33  hc_34) tw_5_2 tw_5_3 tw_1_5 tw_5_4 hdX6_in rfl rfl ⟨Nat.le_of_ble_eq_true rfl, Nat.le_of_ble_eq_true rfl⟩ rfl hl.1 (rest := []) rfl (Nat.le_of_ble_eq_true rfl) dX6_on_13 ⟨Nat.zero_le _, Nat.zero_le _⟩) ?_
    refine lv_if_eq (tgt := 28) hx hb dX6_on_16 (by decide) (fun c_35 => ?_) (fun c_35 => ?_)
    · have hf := if_p hf c_35
      exact j_28 G _ _ ls hf hH (lv_sub hl [0] rfl)
    · have hf := if_n hf c_35
      refine lv_iload_n hx hb dX6_on_19 rfl (lv_at hl 3 rfl) ?_
      refine lv_iconst (v := 0) hx hb dX6_on_20 (by decide) ?_
      refine lv_iconst (v := 2) hx hb dX6_on_21 (by decide) ?_
      obtain ⟨r_36, hc_37, hf⟩ := bind_inv hf
      refine aftPI (runS C hE hA hH [] rfl rfl (kX6_in l g ad _ x3 (0 : Int32) (2 : Int32) r_36  hc_37) tw_5_2 tw_5_3 tw_1_5 tw_5_4 hdX6_in rfl rfl ⟨Nat.le_of_ble_eq_true rfl, Nat.le_of_ble_eq_true rfl⟩ rfl hl.1 (rest := []) rfl (Nat.le_of_ble_eq_true rfl) dX6_on_22 ⟨Nat.zero_le _, Nat.zero_le _⟩) ?_
      refine lv_if_ne (tgt := 35) hx hb dX6_on_25 (by decide) (fun c_38 => ?_) (fun c_38 => ?_)
      · have hf := if_n hf c_38
        refine lv_aload_n hx hb dX6_on_35 rfl (lv_at hl 0 rfl) ?_
        refine lv_iconst (v := 1) hx hb dX6_on_36 (by decide) ?_
        refine lv_aload_n hx hb dX6_on_37 rfl (lv_at hl 0 rfl) ?_
        refine gf_RX6_16 C hE hH 0 rfl rfl dX6_on_38 ?_
        obtain ⟨G_39, hc_40, hf⟩ := bind_inv hf
        refine aftV (runV C hE hA hH [0, 1, 2, 3, 4, 5, 6, 7, 8, 9, 10, 11] nC_M_M_0_11 (sC_M_M_0_11 g ad G J) (kX6_moveAll_p3 l g ad _ G J (1 : Int32) G_39  hc_40) tw_19_6 tw_19_7 tw_19_8 tw_1_5 tw_19_9 hdX6_moveAll_p3 0 rfl rfl rfl rfl ⟨Nat.le_of_ble_eq_true rfl, Nat.le_of_ble_eq_true rfl⟩ rfl hl.1 (rest := []) rfl (Nat.le_of_ble_eq_true rfl) dX6_on_41 ⟨Nat.zero_le _, Nat.zero_le _⟩) hA hH [0, 1, 2, 3, 4, 5, 6, 7, 8, 9, 10, 11] [] (sC_M_M_0_11 g ad G J) (sR_M_M_0_11 g ad G J) nR_M_M_0_11 dj_M_M_0_11 [0, 1, 2, 3, 4, 5, 6, 7, 8, 9, 10, 11] nP_M_M_0_11 (sP_M_M_0_11 g ad G J G_39 J) (fun H locs hH => ?_)
        refine lv_aload_n hx hb dX6_on_44 rfl (lv_at hl 0 rfl) ?_
        refine lv_iload_n hx hb dX6_on_45 rfl (lv_at hl 2 rfl) ?_
        obtain ⟨G_41, hc_42, hf⟩ := bind_inv hf
        refine aftV (runV C hE hA hH [0, 1, 2, 3, 4, 5, 6, 7, 8, 9, 10, 11] nC_M_M_0_11 (sC_M_M_0_11 g ad G_39 J) (kX6_passes l g ad _ G_39 J x2 G_41  hc_42) tw_16_9 tw_16_10 tw_16_11 tw_1_5 tw_16_12 hdX6_passes 0 rfl rfl rfl rfl ⟨Nat.le_of_ble_eq_true rfl, Nat.le_of_ble_eq_true rfl⟩ rfl hl.1 (rest := []) rfl (Nat.le_of_ble_eq_true rfl) dX6_on_46 ⟨Nat.zero_le _, Nat.zero_le _⟩) hA hH [0, 1, 2, 3, 4, 5, 6, 7, 8, 9, 10, 11] [] (sC_M_M_0_11 g ad G_39 J) (sR_M_M_0_11 g ad G_39 J) nR_M_M_0_11 dj_M_M_0_11 [0, 1, 2, 3, 4, 5, 6, 7, 8, 9, 10, 11] nP_M_M_0_11 (sP_M_M_0_11 g ad G_39 J G_41 J) (fun H locs hH => ?_)
        refine lv_aload_n hx hb dX6_on_49 rfl (lv_at hl 0 rfl) ?_
        refine lv_iload_n hx hb dX6_on_50 rfl (lv_at hl 1 rfl) ?_
        refine lv_iload_n hx hb dX6_on_51 rfl (lv_at hl 3 rfl) ?_
        refine lv_if_ne (tgt := 59) hx hb dX6_on_52 (by decide) (fun c_43 => ?_) (fun c_43 => ?_)
        · have hf := if_n hf c_43
          refine lv_iload_n hx hb dX6_on_59 rfl (lv_at hl 3 rfl) ?_
          refine lv_iconst (v := 1) hx hb dX6_on_60 (by decide) ?_
          refine lv_icmp_ne (tgt := 68) hx hb dX6_on_61 (by decide) (fun c_44 => ?_) (fun c_44 => ?_)
          · have hf := if_n hf c_44
            refine lv_iconst (v := 4) hx hb dX6_on_68 (by decide) ?_
            exact j_69 (4 : Int32) x1 G_41 _ _ ls hf hH (lv_sub hl [0] rfl)
          · have hf := if_p hf c_44
            refine lv_iconst (v := 3) hx hb dX6_on_64 (by decide) ?_
            refine lv_goto (tgt := 69) hx hb dX6_on_65 (by decide) ?_
            exact j_69 (3 : Int32) x1 G_41 _ _ ls hf hH (lv_sub hl [0] rfl)
        · have hf := if_p hf c_43
          refine lv_iconst (v := 1) hx hb dX6_on_55 (by decide) ?_
          refine lv_goto (tgt := 69) hx hb dX6_on_56 (by decide) ?_
          exact j_69 (1 : Int32) x1 G_41 _ _ ls hf hH (lv_sub hl [0] rfl)
      · have hf := if_p hf c_38
        exact j_28 G _ _ ls hf hH (lv_sub hl [0] rfl)
def fX6_oil (x1 : Int32) (G : M2) (J : J2) : Option (Int32 × M2) := (fX6_in x1 (0 : Int32) (200 : Int32)).bind (fun (r_15 : Int32) => (if r_15 = 0 then bind2 (fX6_finds (-1000000001 : Int32) G J) (fun (r_26 : Int32) (G_27 : M2) => some (r_26, G_27)) else (fX6_moveAll_p3 (1 : Int32) G J).bind (fun (G_18 : M2) => (fX6_passes x1 G_18 J).bind (fun (G_20 : M2) => grd (inb (2 : Int32) 75) (letb (G_20 1 (2 : Int32).toNatClampNeg) (fun v_23 : Int32 => (fX6_moveAll_p3 (0 : Int32) G_20 J).bind (fun (G_24 : M2) => some (v_23, G_24))))))))
def rmX6_oil : Room := { frames := 7, cells := 0, slots := 0, locals := 154 }
theorem hdX6_oil : yX6_oil.cls = yX6_oil.cls ∧ yX6_oil.cls ≠ "java/lang/invoke/MethodHandle" ∧ yX6_oil.cls ≠ "java/lang/invoke/VarHandle" ∧ (parseMethodDescriptor yX6_oil.desc).map (fun d => d.parameters.length) = some 1 := by decide +kernel
set_option maxHeartbeats 4000000 in
set_option maxRecDepth 100000 in
theorem kX6_oil (l : Launch) (g : Gl) (ad : Nat → Nat) (sz : Nat) (G : M2) (J : J2) (x1 : Int32) (r : Int32) (G' : M2)  (hf : fX6_oil x1 G J = some (r, G')) : MetI l yX6_oil (Cond.code yX6_oil cX6_oil 3 (some .int) :: wsL_law) rmX6_oil [.ref (ad 0), .int x1] g (wM g ad G J) sz r (wM g ad G' J) := by
  refine openI (by decide +kernel) (Nat.le_of_ble_eq_true rfl) ?_
  intro p e s m args below meth c A C hE hA hH ls hl
  have hl : lv_has ls 3 [(0, .ref (ad 0)), (1, .int x1)] := hl
  have C : Cx p s m args meth c cX6_oil 3 (some .int) RX6 := C
  obtain ⟨hx, hb, hml, hown, hT, hr, hlk⟩ := id C
  rw [fX6_oil] at hf
  refine lv_iload_n hx hb dX6_oil_0 rfl (lv_at hl 1 rfl) ?_
  refine lv_iconst (v := 0) hx hb dX6_oil_1 (by decide) ?_
  refine lv_sipush (v := 200) hx hb dX6_oil_2 (by decide) ?_
  obtain ⟨r_15, hc_16, hf⟩ := bind_inv hf
  refine aftPI (runS C hE hA hH [] rfl rfl (kX6_in l g ad _ x1 (0 : Int32) (200 : Int32) r_15  hc_16) tw_5_2 tw_5_3 tw_1_5 tw_5_4 hdX6_in rfl rfl ⟨Nat.le_of_ble_eq_true rfl, Nat.le_of_ble_eq_true rfl⟩ rfl hl.1 (rest := []) rfl (Nat.le_of_ble_eq_true rfl) dX6_oil_5 ⟨Nat.zero_le _, Nat.zero_le _⟩) ?_
  refine lv_if_ne (tgt := 18) hx hb dX6_oil_8 (by decide) (fun c_17 => ?_) (fun c_17 => ?_)
  · have hf := if_n hf c_17
    refine lv_aload_n hx hb dX6_oil_18 rfl (lv_at hl 0 rfl) ?_
    refine lv_iconst (v := 1) hx hb dX6_oil_19 (by decide) ?_
    refine lv_aload_n hx hb dX6_oil_20 rfl (lv_at hl 0 rfl) ?_
    refine gf_RX6_16 C hE hH 0 rfl rfl dX6_oil_21 ?_
    obtain ⟨G_18, hc_19, hf⟩ := bind_inv hf
    refine aftV (runV C hE hA hH [0, 1, 2, 3, 4, 5, 6, 7, 8, 9, 10, 11] nC_M_M_0_11 (sC_M_M_0_11 g ad G J) (kX6_moveAll_p3 l g ad _ G J (1 : Int32) G_18  hc_19) tw_19_6 tw_19_7 tw_19_8 tw_1_5 tw_19_9 hdX6_moveAll_p3 0 rfl rfl rfl rfl ⟨Nat.le_of_ble_eq_true rfl, Nat.le_of_ble_eq_true rfl⟩ rfl hl.1 (rest := []) rfl (Nat.le_of_ble_eq_true rfl) dX6_oil_24 ⟨Nat.zero_le _, Nat.zero_le _⟩) hA hH [0, 1, 2, 3, 4, 5, 6, 7, 8, 9, 10, 11] [] (sC_M_M_0_11 g ad G J) (sR_M_M_0_11 g ad G J) nR_M_M_0_11 dj_M_M_0_11 [0, 1, 2, 3, 4, 5, 6, 7, 8, 9, 10, 11] nP_M_M_0_11 (sP_M_M_0_11 g ad G J G_18 J) (fun H locs hH => ?_)
    refine lv_aload_n hx hb dX6_oil_27 rfl (lv_at hl 0 rfl) ?_
    refine lv_iload_n hx hb dX6_oil_28 rfl (lv_at hl 1 rfl) ?_
    obtain ⟨G_20, hc_21, hf⟩ := bind_inv hf
    refine aftV (runV C hE hA hH [0, 1, 2, 3, 4, 5, 6, 7, 8, 9, 10, 11] nC_M_M_0_11 (sC_M_M_0_11 g ad G_18 J) (kX6_passes l g ad _ G_18 J x1 G_20  hc_21) tw_16_9 tw_16_10 tw_16_11 tw_1_5 tw_16_12 hdX6_passes 0 rfl rfl rfl rfl ⟨Nat.le_of_ble_eq_true rfl, Nat.le_of_ble_eq_true rfl⟩ rfl hl.1 (rest := []) rfl (Nat.le_of_ble_eq_true rfl) dX6_oil_29 ⟨Nat.zero_le _, Nat.zero_le _⟩) hA hH [0, 1, 2, 3, 4, 5, 6, 7, 8, 9, 10, 11] [] (sC_M_M_0_11 g ad G_18 J) (sR_M_M_0_11 g ad G_18 J) nR_M_M_0_11 dj_M_M_0_11 [0, 1, 2, 3, 4, 5, 6, 7, 8, 9, 10, 11] nP_M_M_0_11 (sP_M_M_0_11 g ad G_18 J G_20 J) (fun H locs hH => ?_)
    refine lv_aload_n hx hb dX6_oil_32 rfl (lv_at hl 0 rfl) ?_
    refine gf_RX6_7 C hE hH 0 rfl rfl dX6_oil_33 ?_
    refine lv_iconst (v := 2) hx hb dX6_oil_36 (by decide) ?_
    obtain ⟨hi_22, hf⟩ := grd_inv hf
    refine xiald C hE hH 1 rfl hi_22 dX6_oil_37 ?_
    refine lv_topi (fun v_23 ev_23 => ?_)
    have hf := letb_at hf v_23 ev_23
    refine lv_istore_n (lv' := [(2, .int v_23), (0, .ref (ad 0)), (1, .int x1)]) hx hb dX6_oil_38 rfl hl (by decide) rfl (fun ls hl => ?_)
    refine lv_aload_n hx hb dX6_oil_39 rfl (lv_at hl 1 rfl) ?_
    refine lv_iconst (v := 0) hx hb dX6_oil_40 (by decide) ?_
    refine lv_aload_n hx hb dX6_oil_41 rfl (lv_at hl 1 rfl) ?_
    refine gf_RX6_16 C hE hH 0 rfl rfl dX6_oil_42 ?_
    obtain ⟨G_24, hc_25, hf⟩ := bind_inv hf
    refine aftV (runV C hE hA hH [0, 1, 2, 3, 4, 5, 6, 7, 8, 9, 10, 11] nC_M_M_0_11 (sC_M_M_0_11 g ad G_20 J) (kX6_moveAll_p3 l g ad _ G_20 J (0 : Int32) G_24  hc_25) tw_19_6 tw_19_7 tw_19_8 tw_1_5 tw_19_9 hdX6_moveAll_p3 0 rfl rfl rfl rfl ⟨Nat.le_of_ble_eq_true rfl, Nat.le_of_ble_eq_true rfl⟩ rfl hl.1 (rest := []) rfl (Nat.le_of_ble_eq_true rfl) dX6_oil_45 ⟨Nat.zero_le _, Nat.zero_le _⟩) hA hH [0, 1, 2, 3, 4, 5, 6, 7, 8, 9, 10, 11] [] (sC_M_M_0_11 g ad G_20 J) (sR_M_M_0_11 g ad G_20 J) nR_M_M_0_11 dj_M_M_0_11 [0, 1, 2, 3, 4, 5, 6, 7, 8, 9, 10, 11] nP_M_M_0_11 (sP_M_M_0_11 g ad G_20 J G_24 J) (fun H locs hH => ?_)
    refine lv_iload_n hx hb dX6_oil_48 rfl (lv_at hl 0 rfl) ?_
    have hf := Option.some.inj hf
    obtain ⟨h1, h2⟩ := Prod.mk.inj hf
    subst h1
    subst h2
    exact retI C hH rfl dX6_oil_49
  · have hf := if_p hf c_17
    refine lv_aload_n hx hb dX6_oil_11 rfl (lv_at hl 0 rfl) ?_
    refine lv_ldc hx hb hown (hT _ tw_5_1) dX6_oil_12 ?_
    obtain ⟨r_26, G_27, hc_28, hf⟩ := bind2_inv hf
    refine aftI (runV C hE hA hH [0, 1, 2, 3, 4, 5, 6, 7, 8, 9, 10, 11] nC_M_M_0_11 (sC_M_M_0_11 g ad G J) (kX6_finds l g ad _ G J (-1000000001 : Int32) r_26 G_27  hc_28) tw_5_9 tw_5_10 tw_5_11 tw_1_5 tw_5_12 hdX6_finds 0 rfl rfl rfl rfl ⟨Nat.le_of_ble_eq_true rfl, Nat.le_of_ble_eq_true rfl⟩ rfl hl.1 (rest := []) rfl (Nat.le_of_ble_eq_true rfl) dX6_oil_14 ⟨Nat.zero_le _, Nat.zero_le _⟩) hA hH [0, 1, 2, 3, 4, 5, 6, 7, 8, 9, 10, 11] [] (sC_M_M_0_11 g ad G J) (sR_M_M_0_11 g ad G J) nR_M_M_0_11 dj_M_M_0_11 [0, 1, 2, 3, 4, 5, 6, 7, 8, 9, 10, 11] nP_M_M_0_11 (sP_M_M_0_11 g ad G J G_27 J) (fun H locs hH => ?_)
    have hf := Option.some.inj hf
    obtain ⟨h1, h2⟩ := Prod.mk.inj hf
    subst h1
    subst h2
    exact retI C hH rfl dX6_oil_17
def fX6_nextRelief_c38  (y2 : Int32) (G : M2) (J : J2) : Option (Int32 × M2) := (fX6_moveAll_p3 (0 : Int32) G J).bind (fun (G_11 : M2) => some (y2, G_11))
def fX6_nextRelief_c16  : Nat → Int32 → Int32 → M2 → J2 → Option (Int32 × M2)
  | 0, _, _, _, _ => none
  | n + 1, y1, y2, G, J => (if y1 < y2 then fX6_nextRelief_c38  y2 G J else (if 0 ≤ (G 0 0) then fX6_nextRelief_c38  y2 G J else (fX6_oneDay G J).bind (fun (G_15 : M2) => letb (y2 + (1 : Int32)) (fun v_17 : Int32 => fX6_nextRelief_c16 n y1 v_17 G_15 J))))
def fX6_nextRelief (x1 : Int32) (G : M2) (J : J2) : Option (Int32 × M2) := (fX6_moveAll_p3 (1 : Int32) G J).bind (fun (G_18 : M2) => letb (st2 G_18 0 (upd (G_18 0) 0 (-1 : Int32))) (fun G_20 : M2 => fX6_nextRelief_c16  FU x1 (0 : Int32) G_20 J))
def rmX6_nextRelief : Room := { frames := 6, cells := 0, slots := 0, locals := 132 }
theorem hdX6_nextRelief : yX6_nextRelief.cls = yX6_nextRelief.cls ∧ yX6_nextRelief.cls ≠ "java/lang/invoke/MethodHandle" ∧ yX6_nextRelief.cls ≠ "java/lang/invoke/VarHandle" ∧ (parseMethodDescriptor yX6_nextRelief.desc).map (fun d => d.parameters.length) = some 1 := by decide +kernel
set_option maxHeartbeats 4000000 in
set_option maxRecDepth 100000 in
theorem kX6_nextRelief (l : Launch) (g : Gl) (ad : Nat → Nat) (sz : Nat) (G : M2) (J : J2) (x1 : Int32) (r : Int32) (G' : M2)  (hf : fX6_nextRelief x1 G J = some (r, G')) : MetI l yX6_nextRelief (Cond.code yX6_nextRelief cX6_nextRelief 3 (some .int) :: wsL_law) rmX6_nextRelief [.ref (ad 0), .int x1] g (wM g ad G J) sz r (wM g ad G' J) := by
  refine openI (by decide +kernel) (Nat.le_of_ble_eq_true rfl) ?_
  intro p e s m args below meth c A C hE hA hH ls hl
  have hl : lv_has ls 3 [(0, .ref (ad 0)), (1, .int x1)] := hl
  have C : Cx p s m args meth c cX6_nextRelief 3 (some .int) RX6 := C
  obtain ⟨hx, hb, hml, hown, hT, hr, hlk⟩ := id C
  rw [fX6_nextRelief] at hf
  have lp_16 : ∀ (n_16 : Nat) (y1 : Int32) (y2 : Int32) (G : M2) (H : Heap) (locs : List Loc) (ls : Array Slot), fX6_nextRelief_c16  n_16 y1 y2 G J = some (r, G') → Hp g A s H locs (wM g ad G J) → lv_has ls 3 [(0, .ref (ad 0)), (1, .int y1), (2, .int y2)] → W p l e rmX6_nextRelief s m args below meth c H locs 0 0 (QI g A below args s r (wM g ad G' J)) (F0 m 16 ls []) := by
    intro n_16
    induction n_16 with
    | zero =>
      intro y1 y2 G H locs  ls hf hH hl
      rw [fX6_nextRelief_c16] at hf
      cases hf
    | succ n_16 ih_16 =>
      intro y1 y2 G H locs  ls hf hH hl
      rw [fX6_nextRelief_c16] at hf
      have j_38 : ∀ (y2 : Int32) (G : M2) (H : Heap) (locs : List Loc) (ls : Array Slot), fX6_nextRelief_c38  y2 G J = some (r, G') → Hp g A s H locs (wM g ad G J) → lv_has ls 3 [(0, .ref (ad 0)), (2, .int y2)] → W p l e rmX6_nextRelief s m args below meth c H locs 0 0 (QI g A below args s r (wM g ad G' J)) (F0 m 38 ls []) := by
        intro y2 G H locs  ls hf hH hl
        rw [fX6_nextRelief_c38] at hf
        refine lv_aload_n hx hb dX6_nextRelief_38 rfl (lv_at hl 0 rfl) ?_
        refine lv_iconst (v := 0) hx hb dX6_nextRelief_39 (by decide) ?_
        refine lv_aload_n hx hb dX6_nextRelief_40 rfl (lv_at hl 0 rfl) ?_
        refine gf_RX6_16 C hE hH 0 rfl rfl dX6_nextRelief_41 ?_
        obtain ⟨G_11, hc_12, hf⟩ := bind_inv hf
        refine aftV (runV C hE hA hH [0, 1, 2, 3, 4, 5, 6, 7, 8, 9, 10, 11] nC_M_M_0_11 (sC_M_M_0_11 g ad G J) (kX6_moveAll_p3 l g ad _ G J (0 : Int32) G_11  hc_12) tw_19_6 tw_19_7 tw_19_8 tw_1_5 tw_19_9 hdX6_moveAll_p3 0 rfl rfl rfl rfl ⟨Nat.le_of_ble_eq_true rfl, Nat.le_of_ble_eq_true rfl⟩ rfl hl.1 (rest := []) rfl (Nat.le_of_ble_eq_true rfl) dX6_nextRelief_44 ⟨Nat.zero_le _, Nat.zero_le _⟩) hA hH [0, 1, 2, 3, 4, 5, 6, 7, 8, 9, 10, 11] [] (sC_M_M_0_11 g ad G J) (sR_M_M_0_11 g ad G J) nR_M_M_0_11 dj_M_M_0_11 [0, 1, 2, 3, 4, 5, 6, 7, 8, 9, 10, 11] nP_M_M_0_11 (sP_M_M_0_11 g ad G J G_11 J) (fun H locs hH => ?_)
        refine lv_iload_n hx hb dX6_nextRelief_47 rfl (lv_at hl 1 rfl) ?_
        have hf := Option.some.inj hf
        obtain ⟨h1, h2⟩ := Prod.mk.inj hf
        subst h1
        subst h2
        exact retI C hH rfl dX6_nextRelief_48
      refine lv_iload_n hx hb dX6_nextRelief_16 rfl (lv_at hl 2 rfl) ?_
      refine lv_iload_n hx hb dX6_nextRelief_17 rfl (lv_at hl 1 rfl) ?_
      refine lv_icmp_gt (tgt := 38) hx hb dX6_nextRelief_18 (by decide) (fun c_13 => ?_) (fun c_13 => ?_)
      · have hf := if_p hf c_13
        exact j_38 y2 G _ _ ls hf hH (lv_sub hl [0, 2] rfl)
      · have hf := if_n hf c_13
        refine lv_aload_n hx hb dX6_nextRelief_21 rfl (lv_at hl 0 rfl) ?_
        refine gf_RX6_114 C hE hH 0 rfl rfl dX6_nextRelief_22 ?_
        refine lv_if_ge (tgt := 38) hx hb dX6_nextRelief_25 (by decide) (fun c_14 => ?_) (fun c_14 => ?_)
        · have hf := if_p hf c_14
          exact j_38 y2 G _ _ ls hf hH (lv_sub hl [0, 2] rfl)
        · have hf := if_n hf c_14
          refine lv_aload_n hx hb dX6_nextRelief_28 rfl (lv_at hl 0 rfl) ?_
          obtain ⟨G_15, hc_16, hf⟩ := bind_inv hf
          refine aftV (runV C hE hA hH [0, 1, 2, 3, 4, 5, 6, 7, 8, 9, 10, 11] nC_M_M_0_11 (sC_M_M_0_11 g ad G J) (kX6_oneDay l g ad _ G J G_15  hc_16) tw_16_13 tw_16_14 tw_16_15 tw_1_5 tw_16_16 hdX6_oneDay 0 rfl rfl rfl rfl ⟨Nat.le_of_ble_eq_true rfl, Nat.le_of_ble_eq_true rfl⟩ rfl hl.1 (rest := []) rfl (Nat.le_of_ble_eq_true rfl) dX6_nextRelief_29 ⟨Nat.zero_le _, Nat.zero_le _⟩) hA hH [0, 1, 2, 3, 4, 5, 6, 7, 8, 9, 10, 11] [] (sC_M_M_0_11 g ad G J) (sR_M_M_0_11 g ad G J) nR_M_M_0_11 dj_M_M_0_11 [0, 1, 2, 3, 4, 5, 6, 7, 8, 9, 10, 11] nP_M_M_0_11 (sP_M_M_0_11 g ad G J G_15 J) (fun H locs hH => ?_)
          obtain ⟨v_17, ev_17⟩ : ∃ z : Int32, z = y2 + (1 : Int32) := ⟨_, rfl⟩
          have hf := letb_at hf v_17 ev_17
          refine lv_iinc (v := v_17) (lv' := [(2, .int v_17), (0, .ref (ad 0)), (1, .int y1)]) hx hb dX6_nextRelief_32 hl (k := 2) rfl (by rw [ev_17]; rfl) (by decide) rfl (fun ls hl => ?_)
          refine lv_goto (tgt := 16) hx hb dX6_nextRelief_35 (by decide) ?_
          exact ih_16 y1 v_17 G_15 _ _ ls hf hH (lv_sub hl [1, 2, 0] rfl)
  refine lv_aload_n hx hb dX6_nextRelief_0 rfl (lv_at hl 0 rfl) ?_
  refine lv_iconst (v := 1) hx hb dX6_nextRelief_1 (by decide) ?_
  refine lv_aload_n hx hb dX6_nextRelief_2 rfl (lv_at hl 0 rfl) ?_
  refine gf_RX6_16 C hE hH 0 rfl rfl dX6_nextRelief_3 ?_
  obtain ⟨G_18, hc_19, hf⟩ := bind_inv hf
  refine aftV (runV C hE hA hH [0, 1, 2, 3, 4, 5, 6, 7, 8, 9, 10, 11] nC_M_M_0_11 (sC_M_M_0_11 g ad G J) (kX6_moveAll_p3 l g ad _ G J (1 : Int32) G_18  hc_19) tw_19_6 tw_19_7 tw_19_8 tw_1_5 tw_19_9 hdX6_moveAll_p3 0 rfl rfl rfl rfl ⟨Nat.le_of_ble_eq_true rfl, Nat.le_of_ble_eq_true rfl⟩ rfl hl.1 (rest := []) rfl (Nat.le_of_ble_eq_true rfl) dX6_nextRelief_6 ⟨Nat.zero_le _, Nat.zero_le _⟩) hA hH [0, 1, 2, 3, 4, 5, 6, 7, 8, 9, 10, 11] [] (sC_M_M_0_11 g ad G J) (sR_M_M_0_11 g ad G J) nR_M_M_0_11 dj_M_M_0_11 [0, 1, 2, 3, 4, 5, 6, 7, 8, 9, 10, 11] nP_M_M_0_11 (sP_M_M_0_11 g ad G J G_18 J) (fun H locs hH => ?_)
  refine lv_iconst (v := 0) hx hb dX6_nextRelief_9 (by decide) ?_
  refine lv_istore_n (lv' := [(2, .int (0 : Int32)), (0, .ref (ad 0)), (1, .int x1)]) hx hb dX6_nextRelief_10 rfl hl (by decide) rfl (fun ls hl => ?_)
  refine lv_aload_n hx hb dX6_nextRelief_11 rfl (lv_at hl 1 rfl) ?_
  refine lv_iconst (v := (-1)) hx hb dX6_nextRelief_12 (by decide) ?_
  refine pf_RX6_114 C hE hH 0 rfl rfl rfl (Nat.le_of_ble_eq_true rfl) (fun q : M2 => wM g ad q J) (st2 G_18 0 (upd (G_18 0) 0 (-1 : Int32))) rfl dX6_nextRelief_13 (fun G_20 eG_20 H locs hH => ?_)
  have hf := letb_at hf G_20 eG_20
  exact lp_16 _ x1 (0 : Int32) G_20 _ _ ls hf hH (lv_sub hl [1, 2, 0] rfl)
def fX6_relief_c25  (z0 : Int32) (G : M2) (J : J2) : Option (Int32 × M2) := some (z0, G)
def fX6_relief (G : M2) (J : J2) : Option (Int32 × M2) := bind2 (fX6_nextRelief (200 : Int32) G J) (fun (r_8 : Int32) (G_9 : M2) => (if r_8 ≤ (200 : Int32) then fX6_relief_c25  r_8 G_9 J else bind2 (fX6_finds (-1000000004 : Int32) G_9 J) (fun (r_12 : Int32) (G_13 : M2) => fX6_relief_c25  r_12 G_13 J)))
def rmX6_relief : Room := { frames := 7, cells := 0, slots := 0, locals := 154 }
theorem hdX6_relief : yX6_relief.cls = yX6_relief.cls ∧ yX6_relief.cls ≠ "java/lang/invoke/MethodHandle" ∧ yX6_relief.cls ≠ "java/lang/invoke/VarHandle" ∧ (parseMethodDescriptor yX6_relief.desc).map (fun d => d.parameters.length) = some 0 := by decide +kernel
set_option maxHeartbeats 4000000 in
set_option maxRecDepth 100000 in
theorem kX6_relief (l : Launch) (g : Gl) (ad : Nat → Nat) (sz : Nat) (G : M2) (J : J2)  (r : Int32) (G' : M2)  (hf : fX6_relief G J = some (r, G')) : MetI l yX6_relief (Cond.code yX6_relief cX6_relief 2 (some .int) :: wsL_law) rmX6_relief [.ref (ad 0)] g (wM g ad G J) sz r (wM g ad G' J) := by
  refine openI (by decide +kernel) (Nat.le_of_ble_eq_true rfl) ?_
  intro p e s m args below meth c A C hE hA hH ls hl
  have hl : lv_has ls 2 [(0, .ref (ad 0))] := hl
  have C : Cx p s m args meth c cX6_relief 2 (some .int) RX6 := C
  obtain ⟨hx, hb, hml, hown, hT, hr, hlk⟩ := id C
  rw [fX6_relief] at hf
  have j_25 : ∀ (z0 : Int32) (G : M2) (H : Heap) (locs : List Loc) (ls : Array Slot), fX6_relief_c25  z0 G J = some (r, G') → Hp g A s H locs (wM g ad G J) → lv_has ls 2 [] → W p l e rmX6_relief s m args below meth c H locs 0 0 (QI g A below args s r (wM g ad G' J)) (F0 m 25 ls [.int z0]) := by
    intro z0 G H locs  ls hf hH hl
    rw [fX6_relief_c25] at hf
    have hf := Option.some.inj hf
    obtain ⟨h1, h2⟩ := Prod.mk.inj hf
    subst h1
    subst h2
    exact retI C hH rfl dX6_relief_25
  refine lv_aload_n hx hb dX6_relief_0 rfl (lv_at hl 0 rfl) ?_
  refine lv_sipush (v := 200) hx hb dX6_relief_1 (by decide) ?_
  obtain ⟨r_8, G_9, hc_10, hf⟩ := bind2_inv hf
  refine aftI (runV C hE hA hH [0, 1, 2, 3, 4, 5, 6, 7, 8, 9, 10, 11] nC_M_M_0_11 (sC_M_M_0_11 g ad G J) (kX6_nextRelief l g ad _ G J (200 : Int32) r_8 G_9  hc_10) tw_20_9 tw_20_10 tw_20_11 tw_1_5 tw_20_12 hdX6_nextRelief 0 rfl rfl rfl rfl ⟨Nat.le_of_ble_eq_true rfl, Nat.le_of_ble_eq_true rfl⟩ rfl hl.1 (rest := []) rfl (Nat.le_of_ble_eq_true rfl) dX6_relief_4 ⟨Nat.zero_le _, Nat.zero_le _⟩) hA hH [0, 1, 2, 3, 4, 5, 6, 7, 8, 9, 10, 11] [] (sC_M_M_0_11 g ad G J) (sR_M_M_0_11 g ad G J) nR_M_M_0_11 dj_M_M_0_11 [0, 1, 2, 3, 4, 5, 6, 7, 8, 9, 10, 11] nP_M_M_0_11 (sP_M_M_0_11 g ad G J G_9 J) (fun H locs hH => ?_)
  refine lv_istore_n (lv' := [(1, .int r_8), (0, .ref (ad 0))]) hx hb dX6_relief_7 rfl hl (by decide) rfl (fun ls hl => ?_)
  refine lv_iload_n hx hb dX6_relief_8 rfl (lv_at hl 0 rfl) ?_
  refine lv_sipush (v := 200) hx hb dX6_relief_9 (by decide) ?_
  refine lv_icmp_le (tgt := 24) hx hb dX6_relief_12 (by decide) (fun c_11 => ?_) (fun c_11 => ?_)
  · have hf := if_p hf c_11
    refine lv_iload_n hx hb dX6_relief_24 rfl (lv_at hl 0 rfl) ?_
    exact j_25 r_8 G_9 _ _ ls hf hH (lv_sub hl [] rfl)
  · have hf := if_n hf c_11
    refine lv_aload_n hx hb dX6_relief_15 rfl (lv_at hl 1 rfl) ?_
    refine lv_ldc hx hb hown (hT _ tw_20_8) dX6_relief_16 ?_
    obtain ⟨r_12, G_13, hc_14, hf⟩ := bind2_inv hf
    refine aftI (runV C hE hA hH [0, 1, 2, 3, 4, 5, 6, 7, 8, 9, 10, 11] nC_M_M_0_11 (sC_M_M_0_11 g ad G_9 J) (kX6_finds l g ad _ G_9 J (-1000000004 : Int32) r_12 G_13  hc_14) tw_5_9 tw_5_10 tw_5_11 tw_1_5 tw_5_12 hdX6_finds 0 rfl rfl rfl rfl ⟨Nat.le_of_ble_eq_true rfl, Nat.le_of_ble_eq_true rfl⟩ rfl hl.1 (rest := []) rfl (Nat.le_of_ble_eq_true rfl) dX6_relief_18 ⟨Nat.zero_le _, Nat.zero_le _⟩) hA hH [0, 1, 2, 3, 4, 5, 6, 7, 8, 9, 10, 11] [] (sC_M_M_0_11 g ad G_9 J) (sR_M_M_0_11 g ad G_9 J) nR_M_M_0_11 dj_M_M_0_11 [0, 1, 2, 3, 4, 5, 6, 7, 8, 9, 10, 11] nP_M_M_0_11 (sP_M_M_0_11 g ad G_9 J G_13 J) (fun H locs hH => ?_)
    refine lv_goto (tgt := 25) hx hb dX6_relief_21 (by decide) ?_
    exact j_25 r_12 G_13 _ _ ls hf hH (lv_sub hl [] rfl)
def fX6_ashore_c79  (z0 : Int32) (G : M2) (J : J2) : Option (Int32 × M2) := some (z0, G)
def fX6_ashore_c53  (y2 : Int32) (G : M2) (J : J2) : Option (Int32 × M2) := (fX6_moveAll_p3 (0 : Int32) G J).bind (fun (G_22 : M2) => (if y2 ≤ (200 : Int32) then fX6_ashore_c79  y2 G_22 J else bind2 (fX6_finds (-1000000004 : Int32) G_22 J) (fun (r_25 : Int32) (G_26 : M2) => fX6_ashore_c79  r_25 G_26 J)))
def fX6_ashore_c26  : Nat → Int32 → Int32 → M2 → J2 → Option (Int32 × M2)
  | 0, _, _, _, _ => none
  | n + 1, y1, y2, G, J => (if (200 : Int32) < y2 then fX6_ashore_c53  y2 G J else (fX6_its y1 (1 : Int32) G J).bind (fun (r_29 : Int32) => (if r_29 = (1 : Int32) then (fX6_oneDay G J).bind (fun (G_32 : M2) => letb (y2 + (1 : Int32)) (fun v_34 : Int32 => fX6_ashore_c26 n y1 v_34 G_32 J)) else fX6_ashore_c53  y2 G J)))
def fX6_ashore (x1 : Int32) (G : M2) (J : J2) : Option (Int32 × M2) := (fX6_isOne x1 G J).bind (fun (r_35 : Int32) => (if r_35 = 0 then bind2 (fX6_finds (-1000000001 : Int32) G J) (fun (r_40 : Int32) (G_41 : M2) => some (r_40, G_41)) else (fX6_moveAll_p3 (1 : Int32) G J).bind (fun (G_38 : M2) => fX6_ashore_c26  FU x1 (0 : Int32) G_38 J)))
def rmX6_ashore : Room := { frames := 6, cells := 0, slots := 0, locals := 132 }
theorem hdX6_ashore : yX6_ashore.cls = yX6_ashore.cls ∧ yX6_ashore.cls ≠ "java/lang/invoke/MethodHandle" ∧ yX6_ashore.cls ≠ "java/lang/invoke/VarHandle" ∧ (parseMethodDescriptor yX6_ashore.desc).map (fun d => d.parameters.length) = some 1 := by decide +kernel
set_option maxHeartbeats 4000000 in
set_option maxRecDepth 100000 in
theorem kX6_ashore (l : Launch) (g : Gl) (ad : Nat → Nat) (sz : Nat) (G : M2) (J : J2) (x1 : Int32) (r : Int32) (G' : M2)  (hf : fX6_ashore x1 G J = some (r, G')) : MetI l yX6_ashore (Cond.code yX6_ashore cX6_ashore 3 (some .int) :: wsL_law) rmX6_ashore [.ref (ad 0), .int x1] g (wM g ad G J) sz r (wM g ad G' J) := by
  refine openI (by decide +kernel) (Nat.le_of_ble_eq_true rfl) ?_
  intro p e s m args below meth c A C hE hA hH ls hl
  have hl : lv_has ls 3 [(0, .ref (ad 0)), (1, .int x1)] := hl
  have C : Cx p s m args meth c cX6_ashore 3 (some .int) RX6 := C
  obtain ⟨hx, hb, hml, hown, hT, hr, hlk⟩ := id C
  rw [fX6_ashore] at hf
  have lp_26 : ∀ (n_26 : Nat) (y1 : Int32) (y2 : Int32) (G : M2) (H : Heap) (locs : List Loc) (ls : Array Slot), fX6_ashore_c26  n_26 y1 y2 G J = some (r, G') → Hp g A s H locs (wM g ad G J) → lv_has ls 3 [(0, .ref (ad 0)), (1, .int y1), (2, .int y2)] → W p l e rmX6_ashore s m args below meth c H locs 0 0 (QI g A below args s r (wM g ad G' J)) (F0 m 26 ls []) := by
    intro n_26
    induction n_26 with
    | zero =>
      intro y1 y2 G H locs  ls hf hH hl
      rw [fX6_ashore_c26] at hf
      cases hf
    | succ n_26 ih_26 =>
      intro y1 y2 G H locs  ls hf hH hl
      rw [fX6_ashore_c26] at hf
      have j_53 : ∀ (y2 : Int32) (G : M2) (H : Heap) (locs : List Loc) (ls : Array Slot), fX6_ashore_c53  y2 G J = some (r, G') → Hp g A s H locs (wM g ad G J) → lv_has ls 3 [(0, .ref (ad 0)), (2, .int y2)] → W p l e rmX6_ashore s m args below meth c H locs 0 0 (QI g A below args s r (wM g ad G' J)) (F0 m 53 ls []) := by
        intro y2 G H locs  ls hf hH hl
        rw [fX6_ashore_c53] at hf
        have j_79 : ∀ (z0 : Int32) (G : M2) (H : Heap) (locs : List Loc) (ls : Array Slot), fX6_ashore_c79  z0 G J = some (r, G') → Hp g A s H locs (wM g ad G J) → lv_has ls 3 [] → W p l e rmX6_ashore s m args below meth c H locs 0 0 (QI g A below args s r (wM g ad G' J)) (F0 m 79 ls [.int z0]) := by
          intro z0 G H locs  ls hf hH hl
          rw [fX6_ashore_c79] at hf
          have hf := Option.some.inj hf
          obtain ⟨h1, h2⟩ := Prod.mk.inj hf
          subst h1
          subst h2
          exact retI C hH rfl dX6_ashore_79
        refine lv_aload_n hx hb dX6_ashore_53 rfl (lv_at hl 0 rfl) ?_
        refine lv_iconst (v := 0) hx hb dX6_ashore_54 (by decide) ?_
        refine lv_aload_n hx hb dX6_ashore_55 rfl (lv_at hl 0 rfl) ?_
        refine gf_RX6_16 C hE hH 0 rfl rfl dX6_ashore_56 ?_
        obtain ⟨G_22, hc_23, hf⟩ := bind_inv hf
        refine aftV (runV C hE hA hH [0, 1, 2, 3, 4, 5, 6, 7, 8, 9, 10, 11] nC_M_M_0_11 (sC_M_M_0_11 g ad G J) (kX6_moveAll_p3 l g ad _ G J (0 : Int32) G_22  hc_23) tw_19_6 tw_19_7 tw_19_8 tw_1_5 tw_19_9 hdX6_moveAll_p3 0 rfl rfl rfl rfl ⟨Nat.le_of_ble_eq_true rfl, Nat.le_of_ble_eq_true rfl⟩ rfl hl.1 (rest := []) rfl (Nat.le_of_ble_eq_true rfl) dX6_ashore_59 ⟨Nat.zero_le _, Nat.zero_le _⟩) hA hH [0, 1, 2, 3, 4, 5, 6, 7, 8, 9, 10, 11] [] (sC_M_M_0_11 g ad G J) (sR_M_M_0_11 g ad G J) nR_M_M_0_11 dj_M_M_0_11 [0, 1, 2, 3, 4, 5, 6, 7, 8, 9, 10, 11] nP_M_M_0_11 (sP_M_M_0_11 g ad G J G_22 J) (fun H locs hH => ?_)
        refine lv_iload_n hx hb dX6_ashore_62 rfl (lv_at hl 1 rfl) ?_
        refine lv_sipush (v := 200) hx hb dX6_ashore_63 (by decide) ?_
        refine lv_icmp_le (tgt := 78) hx hb dX6_ashore_66 (by decide) (fun c_24 => ?_) (fun c_24 => ?_)
        · have hf := if_p hf c_24
          refine lv_iload_n hx hb dX6_ashore_78 rfl (lv_at hl 1 rfl) ?_
          exact j_79 y2 G_22 _ _ ls hf hH (lv_sub hl [] rfl)
        · have hf := if_n hf c_24
          refine lv_aload_n hx hb dX6_ashore_69 rfl (lv_at hl 0 rfl) ?_
          refine lv_ldc hx hb hown (hT _ tw_20_8) dX6_ashore_70 ?_
          obtain ⟨r_25, G_26, hc_27, hf⟩ := bind2_inv hf
          refine aftI (runV C hE hA hH [0, 1, 2, 3, 4, 5, 6, 7, 8, 9, 10, 11] nC_M_M_0_11 (sC_M_M_0_11 g ad G_22 J) (kX6_finds l g ad _ G_22 J (-1000000004 : Int32) r_25 G_26  hc_27) tw_5_9 tw_5_10 tw_5_11 tw_1_5 tw_5_12 hdX6_finds 0 rfl rfl rfl rfl ⟨Nat.le_of_ble_eq_true rfl, Nat.le_of_ble_eq_true rfl⟩ rfl hl.1 (rest := []) rfl (Nat.le_of_ble_eq_true rfl) dX6_ashore_72 ⟨Nat.zero_le _, Nat.zero_le _⟩) hA hH [0, 1, 2, 3, 4, 5, 6, 7, 8, 9, 10, 11] [] (sC_M_M_0_11 g ad G_22 J) (sR_M_M_0_11 g ad G_22 J) nR_M_M_0_11 dj_M_M_0_11 [0, 1, 2, 3, 4, 5, 6, 7, 8, 9, 10, 11] nP_M_M_0_11 (sP_M_M_0_11 g ad G_22 J G_26 J) (fun H locs hH => ?_)
          refine lv_goto (tgt := 79) hx hb dX6_ashore_75 (by decide) ?_
          exact j_79 r_25 G_26 _ _ ls hf hH (lv_sub hl [] rfl)
      refine lv_iload_n hx hb dX6_ashore_26 rfl (lv_at hl 2 rfl) ?_
      refine lv_sipush (v := 200) hx hb dX6_ashore_27 (by decide) ?_
      refine lv_icmp_gt (tgt := 53) hx hb dX6_ashore_30 (by decide) (fun c_28 => ?_) (fun c_28 => ?_)
      · have hf := if_p hf c_28
        exact j_53 y2 G _ _ ls hf hH (lv_sub hl [0, 2] rfl)
      · have hf := if_n hf c_28
        refine lv_aload_n hx hb dX6_ashore_33 rfl (lv_at hl 0 rfl) ?_
        refine lv_iload_n hx hb dX6_ashore_34 rfl (lv_at hl 1 rfl) ?_
        refine lv_iconst (v := 1) hx hb dX6_ashore_35 (by decide) ?_
        obtain ⟨r_29, hc_30, hf⟩ := bind_inv hf
        refine aftPI (runV C hE hA hH [0, 1, 2, 3, 4, 5, 6, 7, 8, 9, 10, 11] nC_M_M_0_11 (sC_M_M_0_11 g ad G J) (kX6_its l g ad _ G J y1 (1 : Int32) r_29  hc_30) tw_10_14 tw_10_15 tw_10_16 tw_1_5 tw_10_17 hdX6_its 0 rfl rfl rfl rfl ⟨Nat.le_of_ble_eq_true rfl, Nat.le_of_ble_eq_true rfl⟩ rfl hl.1 (rest := []) rfl (Nat.le_of_ble_eq_true rfl) dX6_ashore_36 ⟨Nat.zero_le _, Nat.zero_le _⟩) ?_
        refine lv_iconst (v := 1) hx hb dX6_ashore_39 (by decide) ?_
        refine lv_icmp_ne (tgt := 53) hx hb dX6_ashore_40 (by decide) (fun c_31 => ?_) (fun c_31 => ?_)
        · have hf := if_n hf c_31
          exact j_53 y2 G _ _ ls hf hH (lv_sub hl [0, 2] rfl)
        · have hf := if_p hf c_31
          refine lv_aload_n hx hb dX6_ashore_43 rfl (lv_at hl 0 rfl) ?_
          obtain ⟨G_32, hc_33, hf⟩ := bind_inv hf
          refine aftV (runV C hE hA hH [0, 1, 2, 3, 4, 5, 6, 7, 8, 9, 10, 11] nC_M_M_0_11 (sC_M_M_0_11 g ad G J) (kX6_oneDay l g ad _ G J G_32  hc_33) tw_16_13 tw_16_14 tw_16_15 tw_1_5 tw_16_16 hdX6_oneDay 0 rfl rfl rfl rfl ⟨Nat.le_of_ble_eq_true rfl, Nat.le_of_ble_eq_true rfl⟩ rfl hl.1 (rest := []) rfl (Nat.le_of_ble_eq_true rfl) dX6_ashore_44 ⟨Nat.zero_le _, Nat.zero_le _⟩) hA hH [0, 1, 2, 3, 4, 5, 6, 7, 8, 9, 10, 11] [] (sC_M_M_0_11 g ad G J) (sR_M_M_0_11 g ad G J) nR_M_M_0_11 dj_M_M_0_11 [0, 1, 2, 3, 4, 5, 6, 7, 8, 9, 10, 11] nP_M_M_0_11 (sP_M_M_0_11 g ad G J G_32 J) (fun H locs hH => ?_)
          obtain ⟨v_34, ev_34⟩ : ∃ z : Int32, z = y2 + (1 : Int32) := ⟨_, rfl⟩
          have hf := letb_at hf v_34 ev_34
          refine lv_iinc (v := v_34) (lv' := [(2, .int v_34), (0, .ref (ad 0)), (1, .int y1)]) hx hb dX6_ashore_47 hl (k := 2) rfl (by rw [ev_34]; rfl) (by decide) rfl (fun ls hl => ?_)
          refine lv_goto (tgt := 26) hx hb dX6_ashore_50 (by decide) ?_
          exact ih_26 y1 v_34 G_32 _ _ ls hf hH (lv_sub hl [1, 2, 0] rfl)
  refine lv_aload_n hx hb dX6_ashore_0 rfl (lv_at hl 0 rfl) ?_
  refine lv_iload_n hx hb dX6_ashore_1 rfl (lv_at hl 1 rfl) ?_
  obtain ⟨r_35, hc_36, hf⟩ := bind_inv hf
  refine aftPI (runV C hE hA hH [0, 1, 2, 3, 4, 5, 6, 7, 8, 9, 10, 11] nC_M_M_0_11 (sC_M_M_0_11 g ad G J) (kX6_isOne l g ad _ G J x1 r_35  hc_36) tw_10_6 tw_10_7 tw_10_8 tw_1_5 tw_10_9 hdX6_isOne 0 rfl rfl rfl rfl ⟨Nat.le_of_ble_eq_true rfl, Nat.le_of_ble_eq_true rfl⟩ rfl hl.1 (rest := []) rfl (Nat.le_of_ble_eq_true rfl) dX6_ashore_2 ⟨Nat.zero_le _, Nat.zero_le _⟩) ?_
  refine lv_if_ne (tgt := 15) hx hb dX6_ashore_5 (by decide) (fun c_37 => ?_) (fun c_37 => ?_)
  · have hf := if_n hf c_37
    refine lv_aload_n hx hb dX6_ashore_15 rfl (lv_at hl 0 rfl) ?_
    refine lv_iconst (v := 1) hx hb dX6_ashore_16 (by decide) ?_
    refine lv_aload_n hx hb dX6_ashore_17 rfl (lv_at hl 0 rfl) ?_
    refine gf_RX6_16 C hE hH 0 rfl rfl dX6_ashore_18 ?_
    obtain ⟨G_38, hc_39, hf⟩ := bind_inv hf
    refine aftV (runV C hE hA hH [0, 1, 2, 3, 4, 5, 6, 7, 8, 9, 10, 11] nC_M_M_0_11 (sC_M_M_0_11 g ad G J) (kX6_moveAll_p3 l g ad _ G J (1 : Int32) G_38  hc_39) tw_19_6 tw_19_7 tw_19_8 tw_1_5 tw_19_9 hdX6_moveAll_p3 0 rfl rfl rfl rfl ⟨Nat.le_of_ble_eq_true rfl, Nat.le_of_ble_eq_true rfl⟩ rfl hl.1 (rest := []) rfl (Nat.le_of_ble_eq_true rfl) dX6_ashore_21 ⟨Nat.zero_le _, Nat.zero_le _⟩) hA hH [0, 1, 2, 3, 4, 5, 6, 7, 8, 9, 10, 11] [] (sC_M_M_0_11 g ad G J) (sR_M_M_0_11 g ad G J) nR_M_M_0_11 dj_M_M_0_11 [0, 1, 2, 3, 4, 5, 6, 7, 8, 9, 10, 11] nP_M_M_0_11 (sP_M_M_0_11 g ad G J G_38 J) (fun H locs hH => ?_)
    refine lv_iconst (v := 0) hx hb dX6_ashore_24 (by decide) ?_
    refine lv_istore_n (lv' := [(2, .int (0 : Int32)), (0, .ref (ad 0)), (1, .int x1)]) hx hb dX6_ashore_25 rfl hl (by decide) rfl (fun ls hl => ?_)
    exact lp_26 _ x1 (0 : Int32) G_38 _ _ ls hf hH (lv_sub hl [1, 2, 0] rfl)
  · have hf := if_p hf c_37
    refine lv_aload_n hx hb dX6_ashore_8 rfl (lv_at hl 0 rfl) ?_
    refine lv_ldc hx hb hown (hT _ tw_5_1) dX6_ashore_9 ?_
    obtain ⟨r_40, G_41, hc_42, hf⟩ := bind2_inv hf
    refine aftI (runV C hE hA hH [0, 1, 2, 3, 4, 5, 6, 7, 8, 9, 10, 11] nC_M_M_0_11 (sC_M_M_0_11 g ad G J) (kX6_finds l g ad _ G J (-1000000001 : Int32) r_40 G_41  hc_42) tw_5_9 tw_5_10 tw_5_11 tw_1_5 tw_5_12 hdX6_finds 0 rfl rfl rfl rfl ⟨Nat.le_of_ble_eq_true rfl, Nat.le_of_ble_eq_true rfl⟩ rfl hl.1 (rest := []) rfl (Nat.le_of_ble_eq_true rfl) dX6_ashore_11 ⟨Nat.zero_le _, Nat.zero_le _⟩) hA hH [0, 1, 2, 3, 4, 5, 6, 7, 8, 9, 10, 11] [] (sC_M_M_0_11 g ad G J) (sR_M_M_0_11 g ad G J) nR_M_M_0_11 dj_M_M_0_11 [0, 1, 2, 3, 4, 5, 6, 7, 8, 9, 10, 11] nP_M_M_0_11 (sP_M_M_0_11 g ad G J G_41 J) (fun H locs hH => ?_)
    have hf := Option.some.inj hf
    obtain ⟨h1, h2⟩ := Prod.mk.inj hf
    subst h1
    subst h2
    exact retI C hH rfl dX6_ashore_14
def fX6_knows_c18  (G : M2) (J : J2) : Option (Int32 × M2) := bind2 (fX6_finds (-1000000001 : Int32) G J) (fun (r_25 : Int32) (G_26 : M2) => some (r_25, G_26))
def fX6_knows_c92  (z0 : Int32) (G : M2) (J : J2) : Option (Int32 × M2) := some (z0, G)
def fX6_knows_c66  (y3 : Int32) (G : M2) (J : J2) : Option (Int32 × M2) := (fX6_moveAll_p3 (0 : Int32) G J).bind (fun (G_28 : M2) => (if y3 ≤ (200 : Int32) then fX6_knows_c92  y3 G_28 J else bind2 (fX6_finds (-1000000004 : Int32) G_28 J) (fun (r_31 : Int32) (G_32 : M2) => fX6_knows_c92  r_31 G_32 J)))
def fX6_knows_c36  : Nat → Int32 → Int32 → Int32 → M2 → J2 → Option (Int32 × M2)
  | 0, _, _, _, _, _ => none
  | n + 1, y1, y2, y3, G, J => (if (200 : Int32) < y3 then fX6_knows_c66  y3 G J else (fX6_its y1 (3 : Int32) G J).bind (fun (r_35 : Int32) => (if ((r_35 >>> (y2 &&& 31)) &&& (1 : Int32)) = 0 then (fX6_oneDay G J).bind (fun (G_38 : M2) => letb (y3 + (1 : Int32)) (fun v_40 : Int32 => fX6_knows_c36 n y1 y2 v_40 G_38 J)) else fX6_knows_c66  y3 G J)))
def fX6_knows (x1 : Int32) (x2 : Int32) (G : M2) (J : J2) : Option (Int32 × M2) := (fX6_isOne x1 G J).bind (fun (r_41 : Int32) => (if r_41 = 0 then fX6_knows_c18  G J else (fX6_in x2 (0 : Int32) (8 : Int32)).bind (fun (r_44 : Int32) => (if r_44 = 0 then fX6_knows_c18  G J else (fX6_moveAll_p3 (1 : Int32) G J).bind (fun (G_47 : M2) => fX6_knows_c36  FU x1 x2 (0 : Int32) G_47 J)))))
def rmX6_knows : Room := { frames := 6, cells := 0, slots := 0, locals := 132 }
theorem hdX6_knows : yX6_knows.cls = yX6_knows.cls ∧ yX6_knows.cls ≠ "java/lang/invoke/MethodHandle" ∧ yX6_knows.cls ≠ "java/lang/invoke/VarHandle" ∧ (parseMethodDescriptor yX6_knows.desc).map (fun d => d.parameters.length) = some 2 := by decide +kernel
set_option maxHeartbeats 4000000 in
set_option maxRecDepth 100000 in
theorem kX6_knows (l : Launch) (g : Gl) (ad : Nat → Nat) (sz : Nat) (G : M2) (J : J2) (x1 : Int32) (x2 : Int32) (r : Int32) (G' : M2)  (hf : fX6_knows x1 x2 G J = some (r, G')) : MetI l yX6_knows (Cond.code yX6_knows cX6_knows 4 (some .int) :: wsL_law) rmX6_knows [.ref (ad 0), .int x1, .int x2] g (wM g ad G J) sz r (wM g ad G' J) := by
  refine openI (by decide +kernel) (Nat.le_of_ble_eq_true rfl) ?_
  intro p e s m args below meth c A C hE hA hH ls hl
  have hl : lv_has ls 4 [(0, .ref (ad 0)), (1, .int x1), (2, .int x2)] := hl
  have C : Cx p s m args meth c cX6_knows 4 (some .int) RX6 := C
  obtain ⟨hx, hb, hml, hown, hT, hr, hlk⟩ := id C
  rw [fX6_knows] at hf
  have j_18 : ∀ (G : M2) (H : Heap) (locs : List Loc) (ls : Array Slot), fX6_knows_c18  G J = some (r, G') → Hp g A s H locs (wM g ad G J) → lv_has ls 4 [(0, .ref (ad 0))] → W p l e rmX6_knows s m args below meth c H locs 0 0 (QI g A below args s r (wM g ad G' J)) (F0 m 18 ls []) := by
    intro G H locs  ls hf hH hl
    rw [fX6_knows_c18] at hf
    refine lv_aload_n hx hb dX6_knows_18 rfl (lv_at hl 0 rfl) ?_
    refine lv_ldc hx hb hown (hT _ tw_5_1) dX6_knows_19 ?_
    obtain ⟨r_25, G_26, hc_27, hf⟩ := bind2_inv hf
    refine aftI (runV C hE hA hH [0, 1, 2, 3, 4, 5, 6, 7, 8, 9, 10, 11] nC_M_M_0_11 (sC_M_M_0_11 g ad G J) (kX6_finds l g ad _ G J (-1000000001 : Int32) r_25 G_26  hc_27) tw_5_9 tw_5_10 tw_5_11 tw_1_5 tw_5_12 hdX6_finds 0 rfl rfl rfl rfl ⟨Nat.le_of_ble_eq_true rfl, Nat.le_of_ble_eq_true rfl⟩ rfl hl.1 (rest := []) rfl (Nat.le_of_ble_eq_true rfl) dX6_knows_21 ⟨Nat.zero_le _, Nat.zero_le _⟩) hA hH [0, 1, 2, 3, 4, 5, 6, 7, 8, 9, 10, 11] [] (sC_M_M_0_11 g ad G J) (sR_M_M_0_11 g ad G J) nR_M_M_0_11 dj_M_M_0_11 [0, 1, 2, 3, 4, 5, 6, 7, 8, 9, 10, 11] nP_M_M_0_11 (sP_M_M_0_11 g ad G J G_26 J) (fun H locs hH => ?_)
    have hf := Option.some.inj hf
    obtain ⟨h1, h2⟩ := Prod.mk.inj hf
    subst h1
    subst h2
    exact retI C hH rfl dX6_knows_24
  have lp_36 : ∀ (n_36 : Nat) (y1 : Int32) (y2 : Int32) (y3 : Int32) (G : M2) (H : Heap) (locs : List Loc) (ls : Array Slot), fX6_knows_c36  n_36 y1 y2 y3 G J = some (r, G') → Hp g A s H locs (wM g ad G J) → lv_has ls 4 [(0, .ref (ad 0)), (1, .int y1), (2, .int y2), (3, .int y3)] → W p l e rmX6_knows s m args below meth c H locs 0 0 (QI g A below args s r (wM g ad G' J)) (F0 m 36 ls []) := by
    intro n_36
    induction n_36 with
    | zero =>
      intro y1 y2 y3 G H locs  ls hf hH hl
      rw [fX6_knows_c36] at hf
      cases hf
    | succ n_36 ih_36 =>
      intro y1 y2 y3 G H locs  ls hf hH hl
      rw [fX6_knows_c36] at hf
      have j_66 : ∀ (y3 : Int32) (G : M2) (H : Heap) (locs : List Loc) (ls : Array Slot), fX6_knows_c66  y3 G J = some (r, G') → Hp g A s H locs (wM g ad G J) → lv_has ls 4 [(0, .ref (ad 0)), (3, .int y3)] → W p l e rmX6_knows s m args below meth c H locs 0 0 (QI g A below args s r (wM g ad G' J)) (F0 m 66 ls []) := by
        intro y3 G H locs  ls hf hH hl
        rw [fX6_knows_c66] at hf
        have j_92 : ∀ (z0 : Int32) (G : M2) (H : Heap) (locs : List Loc) (ls : Array Slot), fX6_knows_c92  z0 G J = some (r, G') → Hp g A s H locs (wM g ad G J) → lv_has ls 4 [] → W p l e rmX6_knows s m args below meth c H locs 0 0 (QI g A below args s r (wM g ad G' J)) (F0 m 92 ls [.int z0]) := by
          intro z0 G H locs  ls hf hH hl
          rw [fX6_knows_c92] at hf
          have hf := Option.some.inj hf
          obtain ⟨h1, h2⟩ := Prod.mk.inj hf
          subst h1
          subst h2
          exact retI C hH rfl dX6_knows_92
        refine lv_aload_n hx hb dX6_knows_66 rfl (lv_at hl 0 rfl) ?_
        refine lv_iconst (v := 0) hx hb dX6_knows_67 (by decide) ?_
        refine lv_aload_n hx hb dX6_knows_68 rfl (lv_at hl 0 rfl) ?_
        refine gf_RX6_16 C hE hH 0 rfl rfl dX6_knows_69 ?_
        obtain ⟨G_28, hc_29, hf⟩ := bind_inv hf
        refine aftV (runV C hE hA hH [0, 1, 2, 3, 4, 5, 6, 7, 8, 9, 10, 11] nC_M_M_0_11 (sC_M_M_0_11 g ad G J) (kX6_moveAll_p3 l g ad _ G J (0 : Int32) G_28  hc_29) tw_19_6 tw_19_7 tw_19_8 tw_1_5 tw_19_9 hdX6_moveAll_p3 0 rfl rfl rfl rfl ⟨Nat.le_of_ble_eq_true rfl, Nat.le_of_ble_eq_true rfl⟩ rfl hl.1 (rest := []) rfl (Nat.le_of_ble_eq_true rfl) dX6_knows_72 ⟨Nat.zero_le _, Nat.zero_le _⟩) hA hH [0, 1, 2, 3, 4, 5, 6, 7, 8, 9, 10, 11] [] (sC_M_M_0_11 g ad G J) (sR_M_M_0_11 g ad G J) nR_M_M_0_11 dj_M_M_0_11 [0, 1, 2, 3, 4, 5, 6, 7, 8, 9, 10, 11] nP_M_M_0_11 (sP_M_M_0_11 g ad G J G_28 J) (fun H locs hH => ?_)
        refine lv_iload_n hx hb dX6_knows_75 rfl (lv_at hl 1 rfl) ?_
        refine lv_sipush (v := 200) hx hb dX6_knows_76 (by decide) ?_
        refine lv_icmp_le (tgt := 91) hx hb dX6_knows_79 (by decide) (fun c_30 => ?_) (fun c_30 => ?_)
        · have hf := if_p hf c_30
          refine lv_iload_n hx hb dX6_knows_91 rfl (lv_at hl 1 rfl) ?_
          exact j_92 y3 G_28 _ _ ls hf hH (lv_sub hl [] rfl)
        · have hf := if_n hf c_30
          refine lv_aload_n hx hb dX6_knows_82 rfl (lv_at hl 0 rfl) ?_
          refine lv_ldc hx hb hown (hT _ tw_20_8) dX6_knows_83 ?_
          obtain ⟨r_31, G_32, hc_33, hf⟩ := bind2_inv hf
          refine aftI (runV C hE hA hH [0, 1, 2, 3, 4, 5, 6, 7, 8, 9, 10, 11] nC_M_M_0_11 (sC_M_M_0_11 g ad G_28 J) (kX6_finds l g ad _ G_28 J (-1000000004 : Int32) r_31 G_32  hc_33) tw_5_9 tw_5_10 tw_5_11 tw_1_5 tw_5_12 hdX6_finds 0 rfl rfl rfl rfl ⟨Nat.le_of_ble_eq_true rfl, Nat.le_of_ble_eq_true rfl⟩ rfl hl.1 (rest := []) rfl (Nat.le_of_ble_eq_true rfl) dX6_knows_85 ⟨Nat.zero_le _, Nat.zero_le _⟩) hA hH [0, 1, 2, 3, 4, 5, 6, 7, 8, 9, 10, 11] [] (sC_M_M_0_11 g ad G_28 J) (sR_M_M_0_11 g ad G_28 J) nR_M_M_0_11 dj_M_M_0_11 [0, 1, 2, 3, 4, 5, 6, 7, 8, 9, 10, 11] nP_M_M_0_11 (sP_M_M_0_11 g ad G_28 J G_32 J) (fun H locs hH => ?_)
          refine lv_goto (tgt := 92) hx hb dX6_knows_88 (by decide) ?_
          exact j_92 r_31 G_32 _ _ ls hf hH (lv_sub hl [] rfl)
      refine lv_iload_n hx hb dX6_knows_36 rfl (lv_at hl 3 rfl) ?_
      refine lv_sipush (v := 200) hx hb dX6_knows_37 (by decide) ?_
      refine lv_icmp_gt (tgt := 66) hx hb dX6_knows_40 (by decide) (fun c_34 => ?_) (fun c_34 => ?_)
      · have hf := if_p hf c_34
        exact j_66 y3 G _ _ ls hf hH (lv_sub hl [0, 3] rfl)
      · have hf := if_n hf c_34
        refine lv_aload_n hx hb dX6_knows_43 rfl (lv_at hl 0 rfl) ?_
        refine lv_iload_n hx hb dX6_knows_44 rfl (lv_at hl 1 rfl) ?_
        refine lv_iconst (v := 3) hx hb dX6_knows_45 (by decide) ?_
        obtain ⟨r_35, hc_36, hf⟩ := bind_inv hf
        refine aftPI (runV C hE hA hH [0, 1, 2, 3, 4, 5, 6, 7, 8, 9, 10, 11] nC_M_M_0_11 (sC_M_M_0_11 g ad G J) (kX6_its l g ad _ G J y1 (3 : Int32) r_35  hc_36) tw_10_14 tw_10_15 tw_10_16 tw_1_5 tw_10_17 hdX6_its 0 rfl rfl rfl rfl ⟨Nat.le_of_ble_eq_true rfl, Nat.le_of_ble_eq_true rfl⟩ rfl hl.1 (rest := []) rfl (Nat.le_of_ble_eq_true rfl) dX6_knows_46 ⟨Nat.zero_le _, Nat.zero_le _⟩) ?_
        refine lv_iload_n hx hb dX6_knows_49 rfl (lv_at hl 2 rfl) ?_
        refine lv_ishr hx hb dX6_knows_50 ?_
        refine lv_iconst (v := 1) hx hb dX6_knows_51 (by decide) ?_
        refine lv_iand hx hb dX6_knows_52 ?_
        refine lv_if_ne (tgt := 66) hx hb dX6_knows_53 (by decide) (fun c_37 => ?_) (fun c_37 => ?_)
        · have hf := if_n hf c_37
          exact j_66 y3 G _ _ ls hf hH (lv_sub hl [0, 3] rfl)
        · have hf := if_p hf c_37
          refine lv_aload_n hx hb dX6_knows_56 rfl (lv_at hl 0 rfl) ?_
          obtain ⟨G_38, hc_39, hf⟩ := bind_inv hf
          refine aftV (runV C hE hA hH [0, 1, 2, 3, 4, 5, 6, 7, 8, 9, 10, 11] nC_M_M_0_11 (sC_M_M_0_11 g ad G J) (kX6_oneDay l g ad _ G J G_38  hc_39) tw_16_13 tw_16_14 tw_16_15 tw_1_5 tw_16_16 hdX6_oneDay 0 rfl rfl rfl rfl ⟨Nat.le_of_ble_eq_true rfl, Nat.le_of_ble_eq_true rfl⟩ rfl hl.1 (rest := []) rfl (Nat.le_of_ble_eq_true rfl) dX6_knows_57 ⟨Nat.zero_le _, Nat.zero_le _⟩) hA hH [0, 1, 2, 3, 4, 5, 6, 7, 8, 9, 10, 11] [] (sC_M_M_0_11 g ad G J) (sR_M_M_0_11 g ad G J) nR_M_M_0_11 dj_M_M_0_11 [0, 1, 2, 3, 4, 5, 6, 7, 8, 9, 10, 11] nP_M_M_0_11 (sP_M_M_0_11 g ad G J G_38 J) (fun H locs hH => ?_)
          obtain ⟨v_40, ev_40⟩ : ∃ z : Int32, z = y3 + (1 : Int32) := ⟨_, rfl⟩
          have hf := letb_at hf v_40 ev_40
          refine lv_iinc (v := v_40) (lv' := [(3, .int v_40), (0, .ref (ad 0)), (1, .int y1), (2, .int y2)]) hx hb dX6_knows_60 hl (k := 3) rfl (by rw [ev_40]; rfl) (by decide) rfl (fun ls hl => ?_)
          refine lv_goto (tgt := 36) hx hb dX6_knows_63 (by decide) ?_
          exact ih_36 y1 y2 v_40 G_38 _ _ ls hf hH (lv_sub hl [1, 2, 3, 0] rfl)
  refine lv_aload_n hx hb dX6_knows_0 rfl (lv_at hl 0 rfl) ?_
  refine lv_iload_n hx hb dX6_knows_1 rfl (lv_at hl 1 rfl) ?_
  obtain ⟨r_41, hc_42, hf⟩ := bind_inv hf
  refine aftPI (runV C hE hA hH [0, 1, 2, 3, 4, 5, 6, 7, 8, 9, 10, 11] nC_M_M_0_11 (sC_M_M_0_11 g ad G J) (kX6_isOne l g ad _ G J x1 r_41  hc_42) tw_10_6 tw_10_7 tw_10_8 tw_1_5 tw_10_9 hdX6_isOne 0 rfl rfl rfl rfl ⟨Nat.le_of_ble_eq_true rfl, Nat.le_of_ble_eq_true rfl⟩ rfl hl.1 (rest := []) rfl (Nat.le_of_ble_eq_true rfl) dX6_knows_2 ⟨Nat.zero_le _, Nat.zero_le _⟩) ?_
  refine lv_if_eq (tgt := 18) hx hb dX6_knows_5 (by decide) (fun c_43 => ?_) (fun c_43 => ?_)
  · have hf := if_p hf c_43
    exact j_18 G _ _ ls hf hH (lv_sub hl [0] rfl)
  · have hf := if_n hf c_43
    refine lv_iload_n hx hb dX6_knows_8 rfl (lv_at hl 2 rfl) ?_
    refine lv_iconst (v := 0) hx hb dX6_knows_9 (by decide) ?_
    refine lv_bipush (v := 8) hx hb dX6_knows_10 (by decide) ?_
    obtain ⟨r_44, hc_45, hf⟩ := bind_inv hf
    refine aftPI (runS C hE hA hH [] rfl rfl (kX6_in l g ad _ x2 (0 : Int32) (8 : Int32) r_44  hc_45) tw_5_2 tw_5_3 tw_1_5 tw_5_4 hdX6_in rfl rfl ⟨Nat.le_of_ble_eq_true rfl, Nat.le_of_ble_eq_true rfl⟩ rfl hl.1 (rest := []) rfl (Nat.le_of_ble_eq_true rfl) dX6_knows_12 ⟨Nat.zero_le _, Nat.zero_le _⟩) ?_
    refine lv_if_ne (tgt := 25) hx hb dX6_knows_15 (by decide) (fun c_46 => ?_) (fun c_46 => ?_)
    · have hf := if_n hf c_46
      refine lv_aload_n hx hb dX6_knows_25 rfl (lv_at hl 0 rfl) ?_
      refine lv_iconst (v := 1) hx hb dX6_knows_26 (by decide) ?_
      refine lv_aload_n hx hb dX6_knows_27 rfl (lv_at hl 0 rfl) ?_
      refine gf_RX6_16 C hE hH 0 rfl rfl dX6_knows_28 ?_
      obtain ⟨G_47, hc_48, hf⟩ := bind_inv hf
      refine aftV (runV C hE hA hH [0, 1, 2, 3, 4, 5, 6, 7, 8, 9, 10, 11] nC_M_M_0_11 (sC_M_M_0_11 g ad G J) (kX6_moveAll_p3 l g ad _ G J (1 : Int32) G_47  hc_48) tw_19_6 tw_19_7 tw_19_8 tw_1_5 tw_19_9 hdX6_moveAll_p3 0 rfl rfl rfl rfl ⟨Nat.le_of_ble_eq_true rfl, Nat.le_of_ble_eq_true rfl⟩ rfl hl.1 (rest := []) rfl (Nat.le_of_ble_eq_true rfl) dX6_knows_31 ⟨Nat.zero_le _, Nat.zero_le _⟩) hA hH [0, 1, 2, 3, 4, 5, 6, 7, 8, 9, 10, 11] [] (sC_M_M_0_11 g ad G J) (sR_M_M_0_11 g ad G J) nR_M_M_0_11 dj_M_M_0_11 [0, 1, 2, 3, 4, 5, 6, 7, 8, 9, 10, 11] nP_M_M_0_11 (sP_M_M_0_11 g ad G J G_47 J) (fun H locs hH => ?_)
      refine lv_iconst (v := 0) hx hb dX6_knows_34 (by decide) ?_
      refine lv_istore_n (lv' := [(3, .int (0 : Int32)), (0, .ref (ad 0)), (1, .int x1), (2, .int x2)]) hx hb dX6_knows_35 rfl hl (by decide) rfl (fun ls hl => ?_)
      exact lp_36 _ x1 x2 (0 : Int32) G_47 _ _ ls hf hH (lv_sub hl [1, 2, 3, 0] rfl)
    · have hf := if_p hf c_46
      exact j_18 G _ _ ls hf hH (lv_sub hl [0] rfl)
def fX6_dark_c69  (z0 : Int32) (G : M2) (J : J2) : Option (Int32 × M2) := some (z0, G)
def fX6_dark_c43  (y1 : Int32) (G : M2) (J : J2) : Option (Int32 × M2) := (fX6_moveAll_p3 (0 : Int32) G J).bind (fun (G_16 : M2) => (if y1 ≤ (200 : Int32) then fX6_dark_c69  y1 G_16 J else bind2 (fX6_finds (-1000000004 : Int32) G_16 J) (fun (r_19 : Int32) (G_20 : M2) => fX6_dark_c69  r_19 G_20 J)))
def fX6_dark_c11  : Nat → Int32 → M2 → J2 → Option (Int32 × M2)
  | 0, _, _, _ => none
  | n + 1, y1, G, J => (if (200 : Int32) < y1 then fX6_dark_c43  y1 G J else grd (inb (5 : Int32) 75) (grd (inb (5 : Int32) 75) ((if (G 1 (5 : Int32).toNatClampNeg) = (G 3 (5 : Int32).toNatClampNeg) then (fX6_oneDay G J).bind (fun (G_26 : M2) => letb (y1 + (1 : Int32)) (fun v_28 : Int32 => fX6_dark_c11 n v_28 G_26 J)) else fX6_dark_c43  y1 G J))))
def fX6_dark (G : M2) (J : J2) : Option (Int32 × M2) := (fX6_moveAll_p3 (1 : Int32) G J).bind (fun (G_29 : M2) => fX6_dark_c11  FU (0 : Int32) G_29 J)
def rmX6_dark : Room := { frames := 6, cells := 0, slots := 0, locals := 132 }
theorem hdX6_dark : yX6_dark.cls = yX6_dark.cls ∧ yX6_dark.cls ≠ "java/lang/invoke/MethodHandle" ∧ yX6_dark.cls ≠ "java/lang/invoke/VarHandle" ∧ (parseMethodDescriptor yX6_dark.desc).map (fun d => d.parameters.length) = some 0 := by decide +kernel
set_option maxHeartbeats 4000000 in
set_option maxRecDepth 100000 in
theorem kX6_dark (l : Launch) (g : Gl) (ad : Nat → Nat) (sz : Nat) (G : M2) (J : J2)  (r : Int32) (G' : M2)  (hf : fX6_dark G J = some (r, G')) : MetI l yX6_dark (Cond.code yX6_dark cX6_dark 2 (some .int) :: wsL_law) rmX6_dark [.ref (ad 0)] g (wM g ad G J) sz r (wM g ad G' J) := by
  refine openI (by decide +kernel) (Nat.le_of_ble_eq_true rfl) ?_
  intro p e s m args below meth c A C hE hA hH ls hl
  have hl : lv_has ls 2 [(0, .ref (ad 0))] := hl
  have C : Cx p s m args meth c cX6_dark 2 (some .int) RX6 := C
  obtain ⟨hx, hb, hml, hown, hT, hr, hlk⟩ := id C
  rw [fX6_dark] at hf
  have lp_11 : ∀ (n_11 : Nat) (y1 : Int32) (G : M2) (H : Heap) (locs : List Loc) (ls : Array Slot), fX6_dark_c11  n_11 y1 G J = some (r, G') → Hp g A s H locs (wM g ad G J) → lv_has ls 2 [(0, .ref (ad 0)), (1, .int y1)] → W p l e rmX6_dark s m args below meth c H locs 0 0 (QI g A below args s r (wM g ad G' J)) (F0 m 11 ls []) := by
    intro n_11
    induction n_11 with
    | zero =>
      intro y1 G H locs  ls hf hH hl
      rw [fX6_dark_c11] at hf
      cases hf
    | succ n_11 ih_11 =>
      intro y1 G H locs  ls hf hH hl
      rw [fX6_dark_c11] at hf
      have j_43 : ∀ (y1 : Int32) (G : M2) (H : Heap) (locs : List Loc) (ls : Array Slot), fX6_dark_c43  y1 G J = some (r, G') → Hp g A s H locs (wM g ad G J) → lv_has ls 2 [(0, .ref (ad 0)), (1, .int y1)] → W p l e rmX6_dark s m args below meth c H locs 0 0 (QI g A below args s r (wM g ad G' J)) (F0 m 43 ls []) := by
        intro y1 G H locs  ls hf hH hl
        rw [fX6_dark_c43] at hf
        have j_69 : ∀ (z0 : Int32) (G : M2) (H : Heap) (locs : List Loc) (ls : Array Slot), fX6_dark_c69  z0 G J = some (r, G') → Hp g A s H locs (wM g ad G J) → lv_has ls 2 [] → W p l e rmX6_dark s m args below meth c H locs 0 0 (QI g A below args s r (wM g ad G' J)) (F0 m 69 ls [.int z0]) := by
          intro z0 G H locs  ls hf hH hl
          rw [fX6_dark_c69] at hf
          have hf := Option.some.inj hf
          obtain ⟨h1, h2⟩ := Prod.mk.inj hf
          subst h1
          subst h2
          exact retI C hH rfl dX6_dark_69
        refine lv_aload_n hx hb dX6_dark_43 rfl (lv_at hl 0 rfl) ?_
        refine lv_iconst (v := 0) hx hb dX6_dark_44 (by decide) ?_
        refine lv_aload_n hx hb dX6_dark_45 rfl (lv_at hl 0 rfl) ?_
        refine gf_RX6_16 C hE hH 0 rfl rfl dX6_dark_46 ?_
        obtain ⟨G_16, hc_17, hf⟩ := bind_inv hf
        refine aftV (runV C hE hA hH [0, 1, 2, 3, 4, 5, 6, 7, 8, 9, 10, 11] nC_M_M_0_11 (sC_M_M_0_11 g ad G J) (kX6_moveAll_p3 l g ad _ G J (0 : Int32) G_16  hc_17) tw_19_6 tw_19_7 tw_19_8 tw_1_5 tw_19_9 hdX6_moveAll_p3 0 rfl rfl rfl rfl ⟨Nat.le_of_ble_eq_true rfl, Nat.le_of_ble_eq_true rfl⟩ rfl hl.1 (rest := []) rfl (Nat.le_of_ble_eq_true rfl) dX6_dark_49 ⟨Nat.zero_le _, Nat.zero_le _⟩) hA hH [0, 1, 2, 3, 4, 5, 6, 7, 8, 9, 10, 11] [] (sC_M_M_0_11 g ad G J) (sR_M_M_0_11 g ad G J) nR_M_M_0_11 dj_M_M_0_11 [0, 1, 2, 3, 4, 5, 6, 7, 8, 9, 10, 11] nP_M_M_0_11 (sP_M_M_0_11 g ad G J G_16 J) (fun H locs hH => ?_)
        refine lv_iload_n hx hb dX6_dark_52 rfl (lv_at hl 1 rfl) ?_
        refine lv_sipush (v := 200) hx hb dX6_dark_53 (by decide) ?_
        refine lv_icmp_le (tgt := 68) hx hb dX6_dark_56 (by decide) (fun c_18 => ?_) (fun c_18 => ?_)
        · have hf := if_p hf c_18
          refine lv_iload_n hx hb dX6_dark_68 rfl (lv_at hl 1 rfl) ?_
          exact j_69 y1 G_16 _ _ ls hf hH (lv_sub hl [] rfl)
        · have hf := if_n hf c_18
          refine lv_aload_n hx hb dX6_dark_59 rfl (lv_at hl 0 rfl) ?_
          refine lv_ldc hx hb hown (hT _ tw_20_8) dX6_dark_60 ?_
          obtain ⟨r_19, G_20, hc_21, hf⟩ := bind2_inv hf
          refine aftI (runV C hE hA hH [0, 1, 2, 3, 4, 5, 6, 7, 8, 9, 10, 11] nC_M_M_0_11 (sC_M_M_0_11 g ad G_16 J) (kX6_finds l g ad _ G_16 J (-1000000004 : Int32) r_19 G_20  hc_21) tw_5_9 tw_5_10 tw_5_11 tw_1_5 tw_5_12 hdX6_finds 0 rfl rfl rfl rfl ⟨Nat.le_of_ble_eq_true rfl, Nat.le_of_ble_eq_true rfl⟩ rfl hl.1 (rest := []) rfl (Nat.le_of_ble_eq_true rfl) dX6_dark_62 ⟨Nat.zero_le _, Nat.zero_le _⟩) hA hH [0, 1, 2, 3, 4, 5, 6, 7, 8, 9, 10, 11] [] (sC_M_M_0_11 g ad G_16 J) (sR_M_M_0_11 g ad G_16 J) nR_M_M_0_11 dj_M_M_0_11 [0, 1, 2, 3, 4, 5, 6, 7, 8, 9, 10, 11] nP_M_M_0_11 (sP_M_M_0_11 g ad G_16 J G_20 J) (fun H locs hH => ?_)
          refine lv_goto (tgt := 69) hx hb dX6_dark_65 (by decide) ?_
          exact j_69 r_19 G_20 _ _ ls hf hH (lv_sub hl [] rfl)
      refine lv_iload_n hx hb dX6_dark_11 rfl (lv_at hl 1 rfl) ?_
      refine lv_sipush (v := 200) hx hb dX6_dark_12 (by decide) ?_
      refine lv_icmp_gt (tgt := 43) hx hb dX6_dark_15 (by decide) (fun c_22 => ?_) (fun c_22 => ?_)
      · have hf := if_p hf c_22
        exact j_43 y1 G _ _ ls hf hH (lv_sub hl [0, 1] rfl)
      · have hf := if_n hf c_22
        refine lv_aload_n hx hb dX6_dark_18 rfl (lv_at hl 0 rfl) ?_
        refine gf_RX6_7 C hE hH 0 rfl rfl dX6_dark_19 ?_
        refine lv_iconst (v := 5) hx hb dX6_dark_22 (by decide) ?_
        obtain ⟨hi_23, hf⟩ := grd_inv hf
        refine xiald C hE hH 1 rfl hi_23 dX6_dark_23 ?_
        refine lv_aload_n hx hb dX6_dark_24 rfl (lv_at hl 0 rfl) ?_
        refine gf_RX6_16 C hE hH 0 rfl rfl dX6_dark_25 ?_
        refine lv_iconst (v := 5) hx hb dX6_dark_28 (by decide) ?_
        obtain ⟨hi_24, hf⟩ := grd_inv hf
        refine xiald C hE hH 3 rfl hi_24 dX6_dark_29 ?_
        refine lv_icmp_ne (tgt := 43) hx hb dX6_dark_30 (by decide) (fun c_25 => ?_) (fun c_25 => ?_)
        · have hf := if_n hf c_25
          exact j_43 y1 G _ _ ls hf hH (lv_sub hl [0, 1] rfl)
        · have hf := if_p hf c_25
          refine lv_aload_n hx hb dX6_dark_33 rfl (lv_at hl 0 rfl) ?_
          obtain ⟨G_26, hc_27, hf⟩ := bind_inv hf
          refine aftV (runV C hE hA hH [0, 1, 2, 3, 4, 5, 6, 7, 8, 9, 10, 11] nC_M_M_0_11 (sC_M_M_0_11 g ad G J) (kX6_oneDay l g ad _ G J G_26  hc_27) tw_16_13 tw_16_14 tw_16_15 tw_1_5 tw_16_16 hdX6_oneDay 0 rfl rfl rfl rfl ⟨Nat.le_of_ble_eq_true rfl, Nat.le_of_ble_eq_true rfl⟩ rfl hl.1 (rest := []) rfl (Nat.le_of_ble_eq_true rfl) dX6_dark_34 ⟨Nat.zero_le _, Nat.zero_le _⟩) hA hH [0, 1, 2, 3, 4, 5, 6, 7, 8, 9, 10, 11] [] (sC_M_M_0_11 g ad G J) (sR_M_M_0_11 g ad G J) nR_M_M_0_11 dj_M_M_0_11 [0, 1, 2, 3, 4, 5, 6, 7, 8, 9, 10, 11] nP_M_M_0_11 (sP_M_M_0_11 g ad G J G_26 J) (fun H locs hH => ?_)
          obtain ⟨v_28, ev_28⟩ : ∃ z : Int32, z = y1 + (1 : Int32) := ⟨_, rfl⟩
          have hf := letb_at hf v_28 ev_28
          refine lv_iinc (v := v_28) (lv' := [(1, .int v_28), (0, .ref (ad 0))]) hx hb dX6_dark_37 hl (k := 1) rfl (by rw [ev_28]; rfl) (by decide) rfl (fun ls hl => ?_)
          refine lv_goto (tgt := 11) hx hb dX6_dark_40 (by decide) ?_
          exact ih_11 v_28 G_26 _ _ ls hf hH (lv_sub hl [1, 0] rfl)
  refine lv_aload_n hx hb dX6_dark_0 rfl (lv_at hl 0 rfl) ?_
  refine lv_iconst (v := 1) hx hb dX6_dark_1 (by decide) ?_
  refine lv_aload_n hx hb dX6_dark_2 rfl (lv_at hl 0 rfl) ?_
  refine gf_RX6_16 C hE hH 0 rfl rfl dX6_dark_3 ?_
  obtain ⟨G_29, hc_30, hf⟩ := bind_inv hf
  refine aftV (runV C hE hA hH [0, 1, 2, 3, 4, 5, 6, 7, 8, 9, 10, 11] nC_M_M_0_11 (sC_M_M_0_11 g ad G J) (kX6_moveAll_p3 l g ad _ G J (1 : Int32) G_29  hc_30) tw_19_6 tw_19_7 tw_19_8 tw_1_5 tw_19_9 hdX6_moveAll_p3 0 rfl rfl rfl rfl ⟨Nat.le_of_ble_eq_true rfl, Nat.le_of_ble_eq_true rfl⟩ rfl hl.1 (rest := []) rfl (Nat.le_of_ble_eq_true rfl) dX6_dark_6 ⟨Nat.zero_le _, Nat.zero_le _⟩) hA hH [0, 1, 2, 3, 4, 5, 6, 7, 8, 9, 10, 11] [] (sC_M_M_0_11 g ad G J) (sR_M_M_0_11 g ad G J) nR_M_M_0_11 dj_M_M_0_11 [0, 1, 2, 3, 4, 5, 6, 7, 8, 9, 10, 11] nP_M_M_0_11 (sP_M_M_0_11 g ad G J G_29 J) (fun H locs hH => ?_)
  refine lv_iconst (v := 0) hx hb dX6_dark_9 (by decide) ?_
  refine lv_istore_n (lv' := [(1, .int (0 : Int32)), (0, .ref (ad 0))]) hx hb dX6_dark_10 rfl hl (by decide) rfl (fun ls hl => ?_)
  exact lp_11 _ (0 : Int32) G_29 _ _ ls hf hH (lv_sub hl [1, 0] rfl)
def fX6_meet_c21  (G : M2) (J : J2) : Option (Int32 × M2) := bind2 (fX6_finds (-1000000001 : Int32) G J) (fun (r_28 : Int32) (G_29 : M2) => some (r_28, G_29))
def fX6_meet_c129  (z0 : Int32) (G : M2) (J : J2) : Option (Int32 × M2) := some (z0, G)
def fX6_meet_c103  (y3 : Int32) (G : M2) (J : J2) : Option (Int32 × M2) := (fX6_moveAll_p3 (0 : Int32) G J).bind (fun (G_31 : M2) => (if y3 ≤ (200 : Int32) then fX6_meet_c129  y3 G_31 J else bind2 (fX6_finds (-1000000004 : Int32) G_31 J) (fun (r_34 : Int32) (G_35 : M2) => fX6_meet_c129  r_34 G_35 J)))
def fX6_meet_c98 (k_42 : Int32 → Int32 → Int32 → Int32 → M2 → J2 → Option (Int32 × M2)) (y1 : Int32) (y2 : Int32) (y3 : Int32) (z0 : Int32) (G : M2) (J : J2) : Option (Int32 × M2) := k_42 y1 y2 y3 z0 G J
def fX6_meet_c93 (k_42 : Int32 → Int32 → Int32 → Int32 → M2 → J2 → Option (Int32 × M2)) (y1 : Int32) (y2 : Int32) (y3 : Int32) (G : M2) (J : J2) : Option (Int32 × M2) := fX6_meet_c98 k_42 y1 y2 y3 (1 : Int32) G J
def fX6_meet_c97 (k_42 : Int32 → Int32 → Int32 → Int32 → M2 → J2 → Option (Int32 × M2)) (y1 : Int32) (y2 : Int32) (y3 : Int32) (G : M2) (J : J2) : Option (Int32 × M2) := fX6_meet_c98 k_42 y1 y2 y3 (0 : Int32) G J
def fX6_meet_c77 (k_42 : Int32 → Int32 → Int32 → Int32 → M2 → J2 → Option (Int32 × M2)) (y1 : Int32) (y2 : Int32) (y3 : Int32) (G : M2) (J : J2) : Option (Int32 × M2) := (if (G 0 0) = y2 then (if (G 0 1) = y1 then fX6_meet_c93 k_42 y1 y2 y3 G J else fX6_meet_c97 k_42 y1 y2 y3 G J) else fX6_meet_c97 k_42 y1 y2 y3 G J)
def fX6_meet_c42  : Nat → Int32 → Int32 → Int32 → Int32 → M2 → J2 → Option (Int32 × M2)
  | 0, _, _, _, _, _, _ => none
  | n + 1, y1, y2, y3, y4, G, J => (if (200 : Int32) < y3 then fX6_meet_c103  y3 G J else (if y4 = 0 then (fX6_oneDay G J).bind (fun (G_41 : M2) => letb (y3 + (1 : Int32)) (fun v_43 : Int32 => (if (G_41 0 0) = y1 then (if (G_41 0 1) = y2 then fX6_meet_c93 (fX6_meet_c42 n) y1 y2 v_43 G_41 J else fX6_meet_c77 (fX6_meet_c42 n) y1 y2 v_43 G_41 J) else fX6_meet_c77 (fX6_meet_c42 n) y1 y2 v_43 G_41 J))) else fX6_meet_c103  y3 G J))
def fX6_meet (x1 : Int32) (x2 : Int32) (G : M2) (J : J2) : Option (Int32 × M2) := (fX6_isOne x1 G J).bind (fun (r_46 : Int32) => (if r_46 = 0 then fX6_meet_c21  G J else (fX6_isOne x2 G J).bind (fun (r_49 : Int32) => (if r_49 = 0 then fX6_meet_c21  G J else (if x1 = x2 then fX6_meet_c21  G J else (fX6_moveAll_p3 (1 : Int32) G J).bind (fun (G_53 : M2) => fX6_meet_c42  FU x1 x2 (0 : Int32) (0 : Int32) G_53 J))))))
def rmX6_meet : Room := { frames := 6, cells := 0, slots := 0, locals := 132 }
theorem hdX6_meet : yX6_meet.cls = yX6_meet.cls ∧ yX6_meet.cls ≠ "java/lang/invoke/MethodHandle" ∧ yX6_meet.cls ≠ "java/lang/invoke/VarHandle" ∧ (parseMethodDescriptor yX6_meet.desc).map (fun d => d.parameters.length) = some 2 := by decide +kernel
set_option maxHeartbeats 4000000 in
set_option maxRecDepth 100000 in
theorem kX6_meet (l : Launch) (g : Gl) (ad : Nat → Nat) (sz : Nat) (G : M2) (J : J2) (x1 : Int32) (x2 : Int32) (r : Int32) (G' : M2)  (hf : fX6_meet x1 x2 G J = some (r, G')) : MetI l yX6_meet (Cond.code yX6_meet cX6_meet 5 (some .int) :: wsL_law) rmX6_meet [.ref (ad 0), .int x1, .int x2] g (wM g ad G J) sz r (wM g ad G' J) := by
  refine openI (by decide +kernel) (Nat.le_of_ble_eq_true rfl) ?_
  intro p e s m args below meth c A C hE hA hH ls hl
  have hl : lv_has ls 5 [(0, .ref (ad 0)), (1, .int x1), (2, .int x2)] := hl
  have C : Cx p s m args meth c cX6_meet 5 (some .int) RX6 := C
  obtain ⟨hx, hb, hml, hown, hT, hr, hlk⟩ := id C
  rw [fX6_meet] at hf
  have j_21 : ∀ (G : M2) (H : Heap) (locs : List Loc) (ls : Array Slot), fX6_meet_c21  G J = some (r, G') → Hp g A s H locs (wM g ad G J) → lv_has ls 5 [(0, .ref (ad 0))] → W p l e rmX6_meet s m args below meth c H locs 0 0 (QI g A below args s r (wM g ad G' J)) (F0 m 21 ls []) := by
    intro G H locs  ls hf hH hl
    rw [fX6_meet_c21] at hf
    refine lv_aload_n hx hb dX6_meet_21 rfl (lv_at hl 0 rfl) ?_
    refine lv_ldc hx hb hown (hT _ tw_5_1) dX6_meet_22 ?_
    obtain ⟨r_28, G_29, hc_30, hf⟩ := bind2_inv hf
    refine aftI (runV C hE hA hH [0, 1, 2, 3, 4, 5, 6, 7, 8, 9, 10, 11] nC_M_M_0_11 (sC_M_M_0_11 g ad G J) (kX6_finds l g ad _ G J (-1000000001 : Int32) r_28 G_29  hc_30) tw_5_9 tw_5_10 tw_5_11 tw_1_5 tw_5_12 hdX6_finds 0 rfl rfl rfl rfl ⟨Nat.le_of_ble_eq_true rfl, Nat.le_of_ble_eq_true rfl⟩ rfl hl.1 (rest := []) rfl (Nat.le_of_ble_eq_true rfl) dX6_meet_24 ⟨Nat.zero_le _, Nat.zero_le _⟩) hA hH [0, 1, 2, 3, 4, 5, 6, 7, 8, 9, 10, 11] [] (sC_M_M_0_11 g ad G J) (sR_M_M_0_11 g ad G J) nR_M_M_0_11 dj_M_M_0_11 [0, 1, 2, 3, 4, 5, 6, 7, 8, 9, 10, 11] nP_M_M_0_11 (sP_M_M_0_11 g ad G J G_29 J) (fun H locs hH => ?_)
    have hf := Option.some.inj hf
    obtain ⟨h1, h2⟩ := Prod.mk.inj hf
    subst h1
    subst h2
    exact retI C hH rfl dX6_meet_27
  have lp_42 : ∀ (n_42 : Nat) (y1 : Int32) (y2 : Int32) (y3 : Int32) (y4 : Int32) (G : M2) (H : Heap) (locs : List Loc) (ls : Array Slot), fX6_meet_c42  n_42 y1 y2 y3 y4 G J = some (r, G') → Hp g A s H locs (wM g ad G J) → lv_has ls 5 [(0, .ref (ad 0)), (1, .int y1), (2, .int y2), (3, .int y3), (4, .int y4)] → W p l e rmX6_meet s m args below meth c H locs 0 0 (QI g A below args s r (wM g ad G' J)) (F0 m 42 ls []) := by
    intro n_42
    induction n_42 with
    | zero =>
      intro y1 y2 y3 y4 G H locs  ls hf hH hl
      rw [fX6_meet_c42] at hf
      cases hf
    | succ n_42 ih_42 =>
      intro y1 y2 y3 y4 G H locs  ls hf hH hl
      rw [fX6_meet_c42] at hf
      have j_103 : ∀ (y3 : Int32) (G : M2) (H : Heap) (locs : List Loc) (ls : Array Slot), fX6_meet_c103  y3 G J = some (r, G') → Hp g A s H locs (wM g ad G J) → lv_has ls 5 [(0, .ref (ad 0)), (3, .int y3)] → W p l e rmX6_meet s m args below meth c H locs 0 0 (QI g A below args s r (wM g ad G' J)) (F0 m 103 ls []) := by
        intro y3 G H locs  ls hf hH hl
        rw [fX6_meet_c103] at hf
        have j_129 : ∀ (z0 : Int32) (G : M2) (H : Heap) (locs : List Loc) (ls : Array Slot), fX6_meet_c129  z0 G J = some (r, G') → Hp g A s H locs (wM g ad G J) → lv_has ls 5 [] → W p l e rmX6_meet s m args below meth c H locs 0 0 (QI g A below args s r (wM g ad G' J)) (F0 m 129 ls [.int z0]) := by
          intro z0 G H locs  ls hf hH hl
          rw [fX6_meet_c129] at hf
          have hf := Option.some.inj hf
          obtain ⟨h1, h2⟩ := Prod.mk.inj hf
          subst h1
          subst h2
          exact retI C hH rfl dX6_meet_129
        refine lv_aload_n hx hb dX6_meet_103 rfl (lv_at hl 0 rfl) ?_
        refine lv_iconst (v := 0) hx hb dX6_meet_104 (by decide) ?_
        refine lv_aload_n hx hb dX6_meet_105 rfl (lv_at hl 0 rfl) ?_
        refine gf_RX6_16 C hE hH 0 rfl rfl dX6_meet_106 ?_
        obtain ⟨G_31, hc_32, hf⟩ := bind_inv hf
        refine aftV (runV C hE hA hH [0, 1, 2, 3, 4, 5, 6, 7, 8, 9, 10, 11] nC_M_M_0_11 (sC_M_M_0_11 g ad G J) (kX6_moveAll_p3 l g ad _ G J (0 : Int32) G_31  hc_32) tw_19_6 tw_19_7 tw_19_8 tw_1_5 tw_19_9 hdX6_moveAll_p3 0 rfl rfl rfl rfl ⟨Nat.le_of_ble_eq_true rfl, Nat.le_of_ble_eq_true rfl⟩ rfl hl.1 (rest := []) rfl (Nat.le_of_ble_eq_true rfl) dX6_meet_109 ⟨Nat.zero_le _, Nat.zero_le _⟩) hA hH [0, 1, 2, 3, 4, 5, 6, 7, 8, 9, 10, 11] [] (sC_M_M_0_11 g ad G J) (sR_M_M_0_11 g ad G J) nR_M_M_0_11 dj_M_M_0_11 [0, 1, 2, 3, 4, 5, 6, 7, 8, 9, 10, 11] nP_M_M_0_11 (sP_M_M_0_11 g ad G J G_31 J) (fun H locs hH => ?_)
        refine lv_iload_n hx hb dX6_meet_112 rfl (lv_at hl 1 rfl) ?_
        refine lv_sipush (v := 200) hx hb dX6_meet_113 (by decide) ?_
        refine lv_icmp_le (tgt := 128) hx hb dX6_meet_116 (by decide) (fun c_33 => ?_) (fun c_33 => ?_)
        · have hf := if_p hf c_33
          refine lv_iload_n hx hb dX6_meet_128 rfl (lv_at hl 1 rfl) ?_
          exact j_129 y3 G_31 _ _ ls hf hH (lv_sub hl [] rfl)
        · have hf := if_n hf c_33
          refine lv_aload_n hx hb dX6_meet_119 rfl (lv_at hl 0 rfl) ?_
          refine lv_ldc hx hb hown (hT _ tw_20_8) dX6_meet_120 ?_
          obtain ⟨r_34, G_35, hc_36, hf⟩ := bind2_inv hf
          refine aftI (runV C hE hA hH [0, 1, 2, 3, 4, 5, 6, 7, 8, 9, 10, 11] nC_M_M_0_11 (sC_M_M_0_11 g ad G_31 J) (kX6_finds l g ad _ G_31 J (-1000000004 : Int32) r_34 G_35  hc_36) tw_5_9 tw_5_10 tw_5_11 tw_1_5 tw_5_12 hdX6_finds 0 rfl rfl rfl rfl ⟨Nat.le_of_ble_eq_true rfl, Nat.le_of_ble_eq_true rfl⟩ rfl hl.1 (rest := []) rfl (Nat.le_of_ble_eq_true rfl) dX6_meet_122 ⟨Nat.zero_le _, Nat.zero_le _⟩) hA hH [0, 1, 2, 3, 4, 5, 6, 7, 8, 9, 10, 11] [] (sC_M_M_0_11 g ad G_31 J) (sR_M_M_0_11 g ad G_31 J) nR_M_M_0_11 dj_M_M_0_11 [0, 1, 2, 3, 4, 5, 6, 7, 8, 9, 10, 11] nP_M_M_0_11 (sP_M_M_0_11 g ad G_31 J G_35 J) (fun H locs hH => ?_)
          refine lv_goto (tgt := 129) hx hb dX6_meet_125 (by decide) ?_
          exact j_129 r_34 G_35 _ _ ls hf hH (lv_sub hl [] rfl)
      have j_98 : ∀ (y1 : Int32) (y2 : Int32) (y3 : Int32) (z0 : Int32) (G : M2) (H : Heap) (locs : List Loc) (ls : Array Slot), fX6_meet_c98 (fX6_meet_c42 n_42) y1 y2 y3 z0 G J = some (r, G') → Hp g A s H locs (wM g ad G J) → lv_has ls 5 [(0, .ref (ad 0)), (1, .int y1), (2, .int y2), (3, .int y3)] → W p l e rmX6_meet s m args below meth c H locs 0 0 (QI g A below args s r (wM g ad G' J)) (F0 m 98 ls [.int z0]) := by
        intro y1 y2 y3 z0 G H locs  ls hf hH hl
        rw [fX6_meet_c98] at hf
        refine lv_istore (lv' := [(4, .int z0), (0, .ref (ad 0)), (1, .int y1), (2, .int y2), (3, .int y3)]) hx hb dX6_meet_98 hl (by decide) rfl (fun ls hl => ?_)
        refine lv_goto (tgt := 42) hx hb dX6_meet_100 (by decide) ?_
        exact ih_42 y1 y2 y3 z0 G _ _ ls hf hH (lv_sub hl [1, 2, 3, 4, 0] rfl)
      have j_93 : ∀ (y1 : Int32) (y2 : Int32) (y3 : Int32) (G : M2) (H : Heap) (locs : List Loc) (ls : Array Slot), fX6_meet_c93 (fX6_meet_c42 n_42) y1 y2 y3 G J = some (r, G') → Hp g A s H locs (wM g ad G J) → lv_has ls 5 [(0, .ref (ad 0)), (1, .int y1), (2, .int y2), (3, .int y3)] → W p l e rmX6_meet s m args below meth c H locs 0 0 (QI g A below args s r (wM g ad G' J)) (F0 m 93 ls []) := by
        intro y1 y2 y3 G H locs  ls hf hH hl
        rw [fX6_meet_c93] at hf
        refine lv_iconst (v := 1) hx hb dX6_meet_93 (by decide) ?_
        refine lv_goto (tgt := 98) hx hb dX6_meet_94 (by decide) ?_
        exact j_98 y1 y2 y3 (1 : Int32) G _ _ ls hf hH (lv_sub hl [0, 1, 2, 3] rfl)
      have j_77 : ∀ (y1 : Int32) (y2 : Int32) (y3 : Int32) (G : M2) (H : Heap) (locs : List Loc) (ls : Array Slot), fX6_meet_c77 (fX6_meet_c42 n_42) y1 y2 y3 G J = some (r, G') → Hp g A s H locs (wM g ad G J) → lv_has ls 5 [(0, .ref (ad 0)), (1, .int y1), (2, .int y2), (3, .int y3)] → W p l e rmX6_meet s m args below meth c H locs 0 0 (QI g A below args s r (wM g ad G' J)) (F0 m 77 ls []) := by
        intro y1 y2 y3 G H locs  ls hf hH hl
        rw [fX6_meet_c77] at hf
        have j_97 : ∀ (y1 : Int32) (y2 : Int32) (y3 : Int32) (G : M2) (H : Heap) (locs : List Loc) (ls : Array Slot), fX6_meet_c97 (fX6_meet_c42 n_42) y1 y2 y3 G J = some (r, G') → Hp g A s H locs (wM g ad G J) → lv_has ls 5 [(0, .ref (ad 0)), (1, .int y1), (2, .int y2), (3, .int y3)] → W p l e rmX6_meet s m args below meth c H locs 0 0 (QI g A below args s r (wM g ad G' J)) (F0 m 97 ls []) := by
          intro y1 y2 y3 G H locs  ls hf hH hl
          rw [fX6_meet_c97] at hf
          refine lv_iconst (v := 0) hx hb dX6_meet_97 (by decide) ?_
          exact j_98 y1 y2 y3 (0 : Int32) G _ _ ls hf hH (lv_sub hl [0, 1, 2, 3] rfl)
        refine lv_aload_n hx hb dX6_meet_77 rfl (lv_at hl 0 rfl) ?_
        refine gf_RX6_114 C hE hH 0 rfl rfl dX6_meet_78 ?_
        refine lv_iload_n hx hb dX6_meet_81 rfl (lv_at hl 2 rfl) ?_
        refine lv_icmp_ne (tgt := 97) hx hb dX6_meet_82 (by decide) (fun c_37 => ?_) (fun c_37 => ?_)
        · have hf := if_n hf c_37
          exact j_97 y1 y2 y3 G _ _ ls hf hH (lv_sub hl [0, 1, 2, 3] rfl)
        · have hf := if_p hf c_37
          refine lv_aload_n hx hb dX6_meet_85 rfl (lv_at hl 0 rfl) ?_
          refine gf_RX6_118 C hE hH 0 rfl rfl dX6_meet_86 ?_
          refine lv_iload_n hx hb dX6_meet_89 rfl (lv_at hl 1 rfl) ?_
          refine lv_icmp_ne (tgt := 97) hx hb dX6_meet_90 (by decide) (fun c_38 => ?_) (fun c_38 => ?_)
          · have hf := if_n hf c_38
            exact j_97 y1 y2 y3 G _ _ ls hf hH (lv_sub hl [0, 1, 2, 3] rfl)
          · have hf := if_p hf c_38
            exact j_93 y1 y2 y3 G _ _ ls hf hH (lv_sub hl [0, 1, 2, 3] rfl)
      refine lv_iload_n hx hb dX6_meet_42 rfl (lv_at hl 3 rfl) ?_
      refine lv_sipush (v := 200) hx hb dX6_meet_43 (by decide) ?_
      refine lv_icmp_gt (tgt := 103) hx hb dX6_meet_46 (by decide) (fun c_39 => ?_) (fun c_39 => ?_)
      · have hf := if_p hf c_39
        exact j_103 y3 G _ _ ls hf hH (lv_sub hl [0, 3] rfl)
      · have hf := if_n hf c_39
        refine lv_iload hx hb dX6_meet_49 (lv_at hl 4 rfl) ?_
        refine lv_if_ne (tgt := 103) hx hb dX6_meet_51 (by decide) (fun c_40 => ?_) (fun c_40 => ?_)
        · have hf := if_n hf c_40
          exact j_103 y3 G _ _ ls hf hH (lv_sub hl [0, 3] rfl)
        · have hf := if_p hf c_40
          refine lv_aload_n hx hb dX6_meet_54 rfl (lv_at hl 0 rfl) ?_
          obtain ⟨G_41, hc_42, hf⟩ := bind_inv hf
          refine aftV (runV C hE hA hH [0, 1, 2, 3, 4, 5, 6, 7, 8, 9, 10, 11] nC_M_M_0_11 (sC_M_M_0_11 g ad G J) (kX6_oneDay l g ad _ G J G_41  hc_42) tw_16_13 tw_16_14 tw_16_15 tw_1_5 tw_16_16 hdX6_oneDay 0 rfl rfl rfl rfl ⟨Nat.le_of_ble_eq_true rfl, Nat.le_of_ble_eq_true rfl⟩ rfl hl.1 (rest := []) rfl (Nat.le_of_ble_eq_true rfl) dX6_meet_55 ⟨Nat.zero_le _, Nat.zero_le _⟩) hA hH [0, 1, 2, 3, 4, 5, 6, 7, 8, 9, 10, 11] [] (sC_M_M_0_11 g ad G J) (sR_M_M_0_11 g ad G J) nR_M_M_0_11 dj_M_M_0_11 [0, 1, 2, 3, 4, 5, 6, 7, 8, 9, 10, 11] nP_M_M_0_11 (sP_M_M_0_11 g ad G J G_41 J) (fun H locs hH => ?_)
          obtain ⟨v_43, ev_43⟩ : ∃ z : Int32, z = y3 + (1 : Int32) := ⟨_, rfl⟩
          have hf := letb_at hf v_43 ev_43
          refine lv_iinc (v := v_43) (lv' := [(3, .int v_43), (0, .ref (ad 0)), (1, .int y1), (2, .int y2), (4, .int y4)]) hx hb dX6_meet_58 hl (k := 3) rfl (by rw [ev_43]; rfl) (by decide) rfl (fun ls hl => ?_)
          refine lv_aload_n hx hb dX6_meet_61 rfl (lv_at hl 1 rfl) ?_
          refine gf_RX6_114 C hE hH 0 rfl rfl dX6_meet_62 ?_
          refine lv_iload_n hx hb dX6_meet_65 rfl (lv_at hl 2 rfl) ?_
          refine lv_icmp_ne (tgt := 77) hx hb dX6_meet_66 (by decide) (fun c_44 => ?_) (fun c_44 => ?_)
          · have hf := if_n hf c_44
            exact j_77 y1 y2 v_43 G_41 _ _ ls hf hH (lv_sub hl [1, 2, 3, 0] rfl)
          · have hf := if_p hf c_44
            refine lv_aload_n hx hb dX6_meet_69 rfl (lv_at hl 1 rfl) ?_
            refine gf_RX6_118 C hE hH 0 rfl rfl dX6_meet_70 ?_
            refine lv_iload_n hx hb dX6_meet_73 rfl (lv_at hl 3 rfl) ?_
            refine lv_icmp_eq (tgt := 93) hx hb dX6_meet_74 (by decide) (fun c_45 => ?_) (fun c_45 => ?_)
            · have hf := if_p hf c_45
              exact j_93 y1 y2 v_43 G_41 _ _ ls hf hH (lv_sub hl [1, 2, 3, 0] rfl)
            · have hf := if_n hf c_45
              exact j_77 y1 y2 v_43 G_41 _ _ ls hf hH (lv_sub hl [1, 2, 3, 0] rfl)
  refine lv_aload_n hx hb dX6_meet_0 rfl (lv_at hl 0 rfl) ?_
  refine lv_iload_n hx hb dX6_meet_1 rfl (lv_at hl 1 rfl) ?_
  obtain ⟨r_46, hc_47, hf⟩ := bind_inv hf
  refine aftPI (runV C hE hA hH [0, 1, 2, 3, 4, 5, 6, 7, 8, 9, 10, 11] nC_M_M_0_11 (sC_M_M_0_11 g ad G J) (kX6_isOne l g ad _ G J x1 r_46  hc_47) tw_10_6 tw_10_7 tw_10_8 tw_1_5 tw_10_9 hdX6_isOne 0 rfl rfl rfl rfl ⟨Nat.le_of_ble_eq_true rfl, Nat.le_of_ble_eq_true rfl⟩ rfl hl.1 (rest := []) rfl (Nat.le_of_ble_eq_true rfl) dX6_meet_2 ⟨Nat.zero_le _, Nat.zero_le _⟩) ?_
  refine lv_if_eq (tgt := 21) hx hb dX6_meet_5 (by decide) (fun c_48 => ?_) (fun c_48 => ?_)
  · have hf := if_p hf c_48
    exact j_21 G _ _ ls hf hH (lv_sub hl [0] rfl)
  · have hf := if_n hf c_48
    refine lv_aload_n hx hb dX6_meet_8 rfl (lv_at hl 0 rfl) ?_
    refine lv_iload_n hx hb dX6_meet_9 rfl (lv_at hl 2 rfl) ?_
    obtain ⟨r_49, hc_50, hf⟩ := bind_inv hf
    refine aftPI (runV C hE hA hH [0, 1, 2, 3, 4, 5, 6, 7, 8, 9, 10, 11] nC_M_M_0_11 (sC_M_M_0_11 g ad G J) (kX6_isOne l g ad _ G J x2 r_49  hc_50) tw_10_6 tw_10_7 tw_10_8 tw_1_5 tw_10_9 hdX6_isOne 0 rfl rfl rfl rfl ⟨Nat.le_of_ble_eq_true rfl, Nat.le_of_ble_eq_true rfl⟩ rfl hl.1 (rest := []) rfl (Nat.le_of_ble_eq_true rfl) dX6_meet_10 ⟨Nat.zero_le _, Nat.zero_le _⟩) ?_
    refine lv_if_eq (tgt := 21) hx hb dX6_meet_13 (by decide) (fun c_51 => ?_) (fun c_51 => ?_)
    · have hf := if_p hf c_51
      exact j_21 G _ _ ls hf hH (lv_sub hl [0] rfl)
    · have hf := if_n hf c_51
      refine lv_iload_n hx hb dX6_meet_16 rfl (lv_at hl 1 rfl) ?_
      refine lv_iload_n hx hb dX6_meet_17 rfl (lv_at hl 2 rfl) ?_
      refine lv_icmp_ne (tgt := 28) hx hb dX6_meet_18 (by decide) (fun c_52 => ?_) (fun c_52 => ?_)
      · have hf := if_n hf c_52
        refine lv_aload_n hx hb dX6_meet_28 rfl (lv_at hl 0 rfl) ?_
        refine lv_iconst (v := 1) hx hb dX6_meet_29 (by decide) ?_
        refine lv_aload_n hx hb dX6_meet_30 rfl (lv_at hl 0 rfl) ?_
        refine gf_RX6_16 C hE hH 0 rfl rfl dX6_meet_31 ?_
        obtain ⟨G_53, hc_54, hf⟩ := bind_inv hf
        refine aftV (runV C hE hA hH [0, 1, 2, 3, 4, 5, 6, 7, 8, 9, 10, 11] nC_M_M_0_11 (sC_M_M_0_11 g ad G J) (kX6_moveAll_p3 l g ad _ G J (1 : Int32) G_53  hc_54) tw_19_6 tw_19_7 tw_19_8 tw_1_5 tw_19_9 hdX6_moveAll_p3 0 rfl rfl rfl rfl ⟨Nat.le_of_ble_eq_true rfl, Nat.le_of_ble_eq_true rfl⟩ rfl hl.1 (rest := []) rfl (Nat.le_of_ble_eq_true rfl) dX6_meet_34 ⟨Nat.zero_le _, Nat.zero_le _⟩) hA hH [0, 1, 2, 3, 4, 5, 6, 7, 8, 9, 10, 11] [] (sC_M_M_0_11 g ad G J) (sR_M_M_0_11 g ad G J) nR_M_M_0_11 dj_M_M_0_11 [0, 1, 2, 3, 4, 5, 6, 7, 8, 9, 10, 11] nP_M_M_0_11 (sP_M_M_0_11 g ad G J G_53 J) (fun H locs hH => ?_)
        refine lv_iconst (v := 0) hx hb dX6_meet_37 (by decide) ?_
        refine lv_istore_n (lv' := [(3, .int (0 : Int32)), (0, .ref (ad 0)), (1, .int x1), (2, .int x2)]) hx hb dX6_meet_38 rfl hl (by decide) rfl (fun ls hl => ?_)
        refine lv_iconst (v := 0) hx hb dX6_meet_39 (by decide) ?_
        refine lv_istore (lv' := [(4, .int (0 : Int32)), (3, .int (0 : Int32)), (0, .ref (ad 0)), (1, .int x1), (2, .int x2)]) hx hb dX6_meet_40 hl (by decide) rfl (fun ls hl => ?_)
        exact lp_42 _ x1 x2 (0 : Int32) (0 : Int32) G_53 _ _ ls hf hH (lv_sub hl [2, 3, 4, 1, 0] rfl)
      · have hf := if_p hf c_52
        exact j_21 G _ _ ls hf hH (lv_sub hl [0] rfl)
def fX6_rock_c90  (z0 : Int32) (G : M2) (J : J2) : Option (Int32 × M2) := some (z0, G)
def fX6_rock_c68  (y2 : Int32) (y3 : Int32) (y4 : Int32) (G : M2) (J : J2) : Option (Int32 × M2) := grd (inb (1 : Int32) 75) (letb (st2 G 1 (upd (G 1) (1 : Int32).toNatClampNeg y2)) (fun G_25 : M2 => (if y4 = 0 then bind2 (fX6_finds (-1000000004 : Int32) G_25 J) (fun (r_27 : Int32) (G_28 : M2) => fX6_rock_c90  r_27 G_28 J) else fX6_rock_c90  y3 G_25 J)))
def fX6_rock_c63 (k_30 : Int32 → Int32 → Int32 → Int32 → M2 → J2 → Option (Int32 × M2)) (y1 : Int32) (y2 : Int32) (y3 : Int32) (z0 : Int32) (G : M2) (J : J2) : Option (Int32 × M2) := k_30 y1 y2 y3 z0 G J
def fX6_rock_c30  : Nat → Int32 → Int32 → Int32 → Int32 → M2 → J2 → Option (Int32 × M2)
  | 0, _, _, _, _, _, _ => none
  | n + 1, y1, y2, y3, y4, G, J => (if y3 ≤ 0 then fX6_rock_c68  y2 y3 y4 G J else (if y4 = 0 then letb (y3 + (-1 : Int32)) (fun v_32 : Int32 => grd (inb (1 : Int32) 75) (letb (st2 G 1 (upd (G 1) (1 : Int32).toNatClampNeg v_32)) (fun G_34 : M2 => bind2 (fX6_nextRelief y1 G_34 J) (fun (r_35 : Int32) (G_36 : M2) => (if y1 < r_35 then fX6_rock_c63 (fX6_rock_c30 n) y1 y2 v_32 (0 : Int32) G_36 J else fX6_rock_c63 (fX6_rock_c30 n) y1 y2 v_32 (1 : Int32) G_36 J))))) else fX6_rock_c68  y2 y3 y4 G J))
def fX6_rock (x1 : Int32) (G : M2) (J : J2) : Option (Int32 × M2) := (fX6_in x1 (1 : Int32) (100 : Int32)).bind (fun (r_39 : Int32) => (if r_39 = 0 then bind2 (fX6_finds (-1000000001 : Int32) G J) (fun (r_44 : Int32) (G_45 : M2) => some (r_44, G_45)) else grd (inb (1 : Int32) 75) (letb (G 1 (1 : Int32).toNatClampNeg) (fun v_43 : Int32 => fX6_rock_c30  FU x1 v_43 (13 : Int32) (0 : Int32) G J))))
def rmX6_rock : Room := { frames := 7, cells := 0, slots := 0, locals := 154 }
theorem hdX6_rock : yX6_rock.cls = yX6_rock.cls ∧ yX6_rock.cls ≠ "java/lang/invoke/MethodHandle" ∧ yX6_rock.cls ≠ "java/lang/invoke/VarHandle" ∧ (parseMethodDescriptor yX6_rock.desc).map (fun d => d.parameters.length) = some 1 := by decide +kernel
set_option maxHeartbeats 4000000 in
set_option maxRecDepth 100000 in
theorem kX6_rock (l : Launch) (g : Gl) (ad : Nat → Nat) (sz : Nat) (G : M2) (J : J2) (x1 : Int32) (r : Int32) (G' : M2)  (hf : fX6_rock x1 G J = some (r, G')) : MetI l yX6_rock (Cond.code yX6_rock cX6_rock 5 (some .int) :: wsL_law) rmX6_rock [.ref (ad 0), .int x1] g (wM g ad G J) sz r (wM g ad G' J) := by
  refine openI (by decide +kernel) (Nat.le_of_ble_eq_true rfl) ?_
  intro p e s m args below meth c A C hE hA hH ls hl
  have hl : lv_has ls 5 [(0, .ref (ad 0)), (1, .int x1)] := hl
  have C : Cx p s m args meth c cX6_rock 5 (some .int) RX6 := C
  obtain ⟨hx, hb, hml, hown, hT, hr, hlk⟩ := id C
  rw [fX6_rock] at hf
  have lp_30 : ∀ (n_30 : Nat) (y1 : Int32) (y2 : Int32) (y3 : Int32) (y4 : Int32) (G : M2) (H : Heap) (locs : List Loc) (ls : Array Slot), fX6_rock_c30  n_30 y1 y2 y3 y4 G J = some (r, G') → Hp g A s H locs (wM g ad G J) → lv_has ls 5 [(0, .ref (ad 0)), (1, .int y1), (2, .int y2), (3, .int y3), (4, .int y4)] → W p l e rmX6_rock s m args below meth c H locs 0 0 (QI g A below args s r (wM g ad G' J)) (F0 m 30 ls []) := by
    intro n_30
    induction n_30 with
    | zero =>
      intro y1 y2 y3 y4 G H locs  ls hf hH hl
      rw [fX6_rock_c30] at hf
      cases hf
    | succ n_30 ih_30 =>
      intro y1 y2 y3 y4 G H locs  ls hf hH hl
      rw [fX6_rock_c30] at hf
      have j_68 : ∀ (y2 : Int32) (y3 : Int32) (y4 : Int32) (G : M2) (H : Heap) (locs : List Loc) (ls : Array Slot), fX6_rock_c68  y2 y3 y4 G J = some (r, G') → Hp g A s H locs (wM g ad G J) → lv_has ls 5 [(0, .ref (ad 0)), (2, .int y2), (3, .int y3), (4, .int y4)] → W p l e rmX6_rock s m args below meth c H locs 0 0 (QI g A below args s r (wM g ad G' J)) (F0 m 68 ls []) := by
        intro y2 y3 y4 G H locs  ls hf hH hl
        rw [fX6_rock_c68] at hf
        have j_90 : ∀ (z0 : Int32) (G : M2) (H : Heap) (locs : List Loc) (ls : Array Slot), fX6_rock_c90  z0 G J = some (r, G') → Hp g A s H locs (wM g ad G J) → lv_has ls 5 [] → W p l e rmX6_rock s m args below meth c H locs 0 0 (QI g A below args s r (wM g ad G' J)) (F0 m 90 ls [.int z0]) := by
          intro z0 G H locs  ls hf hH hl
          rw [fX6_rock_c90] at hf
          have hf := Option.some.inj hf
          obtain ⟨h1, h2⟩ := Prod.mk.inj hf
          subst h1
          subst h2
          exact retI C hH rfl dX6_rock_90
        refine lv_aload_n hx hb dX6_rock_68 rfl (lv_at hl 0 rfl) ?_
        refine gf_RX6_7 C hE hH 0 rfl rfl dX6_rock_69 ?_
        refine lv_iconst (v := 1) hx hb dX6_rock_72 (by decide) ?_
        refine lv_iload_n hx hb dX6_rock_73 rfl (lv_at hl 1 rfl) ?_
        obtain ⟨hi_24, hf⟩ := grd_inv hf
        refine xiast C hE hH 1 rfl hi_24 (fun q : M2 => wM g ad q J) (st2 G 1 (upd (G 1) (1 : Int32).toNatClampNeg y2)) rfl dX6_rock_74 (fun G_25 eG_25 H locs hH => ?_)
        have hf := letb_at hf G_25 eG_25
        refine lv_iload hx hb dX6_rock_75 (lv_at hl 3 rfl) ?_
        refine lv_if_eq (tgt := 84) hx hb dX6_rock_77 (by decide) (fun c_26 => ?_) (fun c_26 => ?_)
        · have hf := if_p hf c_26
          refine lv_aload_n hx hb dX6_rock_84 rfl (lv_at hl 0 rfl) ?_
          refine lv_ldc hx hb hown (hT _ tw_20_8) dX6_rock_85 ?_
          obtain ⟨r_27, G_28, hc_29, hf⟩ := bind2_inv hf
          refine aftI (runV C hE hA hH [0, 1, 2, 3, 4, 5, 6, 7, 8, 9, 10, 11] nC_M_M_0_11 (sC_M_M_0_11 g ad G_25 J) (kX6_finds l g ad _ G_25 J (-1000000004 : Int32) r_27 G_28  hc_29) tw_5_9 tw_5_10 tw_5_11 tw_1_5 tw_5_12 hdX6_finds 0 rfl rfl rfl rfl ⟨Nat.le_of_ble_eq_true rfl, Nat.le_of_ble_eq_true rfl⟩ rfl hl.1 (rest := []) rfl (Nat.le_of_ble_eq_true rfl) dX6_rock_87 ⟨Nat.zero_le _, Nat.zero_le _⟩) hA hH [0, 1, 2, 3, 4, 5, 6, 7, 8, 9, 10, 11] [] (sC_M_M_0_11 g ad G_25 J) (sR_M_M_0_11 g ad G_25 J) nR_M_M_0_11 dj_M_M_0_11 [0, 1, 2, 3, 4, 5, 6, 7, 8, 9, 10, 11] nP_M_M_0_11 (sP_M_M_0_11 g ad G_25 J G_28 J) (fun H locs hH => ?_)
          exact j_90 r_27 G_28 _ _ ls hf hH (lv_sub hl [] rfl)
        · have hf := if_n hf c_26
          refine lv_iload_n hx hb dX6_rock_80 rfl (lv_at hl 2 rfl) ?_
          refine lv_goto (tgt := 90) hx hb dX6_rock_81 (by decide) ?_
          exact j_90 y3 G_25 _ _ ls hf hH (lv_sub hl [] rfl)
      have j_63 : ∀ (y1 : Int32) (y2 : Int32) (y3 : Int32) (z0 : Int32) (G : M2) (H : Heap) (locs : List Loc) (ls : Array Slot), fX6_rock_c63 (fX6_rock_c30 n_30) y1 y2 y3 z0 G J = some (r, G') → Hp g A s H locs (wM g ad G J) → lv_has ls 5 [(0, .ref (ad 0)), (1, .int y1), (2, .int y2), (3, .int y3)] → W p l e rmX6_rock s m args below meth c H locs 0 0 (QI g A below args s r (wM g ad G' J)) (F0 m 63 ls [.int z0]) := by
        intro y1 y2 y3 z0 G H locs  ls hf hH hl
        rw [fX6_rock_c63] at hf
        refine lv_istore (lv' := [(4, .int z0), (0, .ref (ad 0)), (1, .int y1), (2, .int y2), (3, .int y3)]) hx hb dX6_rock_63 hl (by decide) rfl (fun ls hl => ?_)
        refine lv_goto (tgt := 30) hx hb dX6_rock_65 (by decide) ?_
        exact ih_30 y1 y2 y3 z0 G _ _ ls hf hH (lv_sub hl [1, 2, 3, 4, 0] rfl)
      refine lv_iload_n hx hb dX6_rock_30 rfl (lv_at hl 3 rfl) ?_
      refine lv_if_le (tgt := 68) hx hb dX6_rock_31 (by decide) (fun c_30 => ?_) (fun c_30 => ?_)
      · have hf := if_p hf c_30
        exact j_68 y2 y3 y4 G _ _ ls hf hH (lv_sub hl [0, 2, 3, 4] rfl)
      · have hf := if_n hf c_30
        refine lv_iload hx hb dX6_rock_34 (lv_at hl 4 rfl) ?_
        refine lv_if_ne (tgt := 68) hx hb dX6_rock_36 (by decide) (fun c_31 => ?_) (fun c_31 => ?_)
        · have hf := if_n hf c_31
          exact j_68 y2 y3 y4 G _ _ ls hf hH (lv_sub hl [0, 2, 3, 4] rfl)
        · have hf := if_p hf c_31
          obtain ⟨v_32, ev_32⟩ : ∃ z : Int32, z = y3 + (-1 : Int32) := ⟨_, rfl⟩
          have hf := letb_at hf v_32 ev_32
          refine lv_iinc (v := v_32) (lv' := [(3, .int v_32), (0, .ref (ad 0)), (1, .int y1), (2, .int y2), (4, .int y4)]) hx hb dX6_rock_39 hl (k := 3) rfl (by rw [ev_32]; rfl) (by decide) rfl (fun ls hl => ?_)
          refine lv_aload_n hx hb dX6_rock_42 rfl (lv_at hl 1 rfl) ?_
          refine gf_RX6_7 C hE hH 0 rfl rfl dX6_rock_43 ?_
          refine lv_iconst (v := 1) hx hb dX6_rock_46 (by decide) ?_
          refine lv_iload_n hx hb dX6_rock_47 rfl (lv_at hl 0 rfl) ?_
          obtain ⟨hi_33, hf⟩ := grd_inv hf
          refine xiast C hE hH 1 rfl hi_33 (fun q : M2 => wM g ad q J) (st2 G 1 (upd (G 1) (1 : Int32).toNatClampNeg v_32)) rfl dX6_rock_48 (fun G_34 eG_34 H locs hH => ?_)
          have hf := letb_at hf G_34 eG_34
          refine lv_aload_n hx hb dX6_rock_49 rfl (lv_at hl 1 rfl) ?_
          refine lv_iload_n hx hb dX6_rock_50 rfl (lv_at hl 2 rfl) ?_
          obtain ⟨r_35, G_36, hc_37, hf⟩ := bind2_inv hf
          refine aftI (runV C hE hA hH [0, 1, 2, 3, 4, 5, 6, 7, 8, 9, 10, 11] nC_M_M_0_11 (sC_M_M_0_11 g ad G_34 J) (kX6_nextRelief l g ad _ G_34 J y1 r_35 G_36  hc_37) tw_20_9 tw_20_10 tw_20_11 tw_1_5 tw_20_12 hdX6_nextRelief 0 rfl rfl rfl rfl ⟨Nat.le_of_ble_eq_true rfl, Nat.le_of_ble_eq_true rfl⟩ rfl hl.1 (rest := []) rfl (Nat.le_of_ble_eq_true rfl) dX6_rock_51 ⟨Nat.zero_le _, Nat.zero_le _⟩) hA hH [0, 1, 2, 3, 4, 5, 6, 7, 8, 9, 10, 11] [] (sC_M_M_0_11 g ad G_34 J) (sR_M_M_0_11 g ad G_34 J) nR_M_M_0_11 dj_M_M_0_11 [0, 1, 2, 3, 4, 5, 6, 7, 8, 9, 10, 11] nP_M_M_0_11 (sP_M_M_0_11 g ad G_34 J G_36 J) (fun H locs hH => ?_)
          refine lv_iload_n hx hb dX6_rock_54 rfl (lv_at hl 2 rfl) ?_
          refine lv_icmp_gt (tgt := 62) hx hb dX6_rock_55 (by decide) (fun c_38 => ?_) (fun c_38 => ?_)
          · have hf := if_p hf c_38
            refine lv_iconst (v := 0) hx hb dX6_rock_62 (by decide) ?_
            exact j_63 y1 y2 v_32 (0 : Int32) G_36 _ _ ls hf hH (lv_sub hl [1, 2, 3, 0] rfl)
          · have hf := if_n hf c_38
            refine lv_iconst (v := 1) hx hb dX6_rock_58 (by decide) ?_
            refine lv_goto (tgt := 63) hx hb dX6_rock_59 (by decide) ?_
            exact j_63 y1 y2 v_32 (1 : Int32) G_36 _ _ ls hf hH (lv_sub hl [1, 2, 3, 0] rfl)
  refine lv_iload_n hx hb dX6_rock_0 rfl (lv_at hl 1 rfl) ?_
  refine lv_iconst (v := 1) hx hb dX6_rock_1 (by decide) ?_
  refine lv_bipush (v := 100) hx hb dX6_rock_2 (by decide) ?_
  obtain ⟨r_39, hc_40, hf⟩ := bind_inv hf
  refine aftPI (runS C hE hA hH [] rfl rfl (kX6_in l g ad _ x1 (1 : Int32) (100 : Int32) r_39  hc_40) tw_5_2 tw_5_3 tw_1_5 tw_5_4 hdX6_in rfl rfl ⟨Nat.le_of_ble_eq_true rfl, Nat.le_of_ble_eq_true rfl⟩ rfl hl.1 (rest := []) rfl (Nat.le_of_ble_eq_true rfl) dX6_rock_4 ⟨Nat.zero_le _, Nat.zero_le _⟩) ?_
  refine lv_if_ne (tgt := 17) hx hb dX6_rock_7 (by decide) (fun c_41 => ?_) (fun c_41 => ?_)
  · have hf := if_n hf c_41
    refine lv_aload_n hx hb dX6_rock_17 rfl (lv_at hl 0 rfl) ?_
    refine gf_RX6_7 C hE hH 0 rfl rfl dX6_rock_18 ?_
    refine lv_iconst (v := 1) hx hb dX6_rock_21 (by decide) ?_
    obtain ⟨hi_42, hf⟩ := grd_inv hf
    refine xiald C hE hH 1 rfl hi_42 dX6_rock_22 ?_
    refine lv_topi (fun v_43 ev_43 => ?_)
    have hf := letb_at hf v_43 ev_43
    refine lv_istore_n (lv' := [(2, .int v_43), (0, .ref (ad 0)), (1, .int x1)]) hx hb dX6_rock_23 rfl hl (by decide) rfl (fun ls hl => ?_)
    refine lv_bipush (v := 13) hx hb dX6_rock_24 (by decide) ?_
    refine lv_istore_n (lv' := [(3, .int (13 : Int32)), (2, .int v_43), (0, .ref (ad 0)), (1, .int x1)]) hx hb dX6_rock_26 rfl hl (by decide) rfl (fun ls hl => ?_)
    refine lv_iconst (v := 0) hx hb dX6_rock_27 (by decide) ?_
    refine lv_istore (lv' := [(4, .int (0 : Int32)), (3, .int (13 : Int32)), (2, .int v_43), (0, .ref (ad 0)), (1, .int x1)]) hx hb dX6_rock_28 hl (by decide) rfl (fun ls hl => ?_)
    exact lp_30 _ x1 v_43 (13 : Int32) (0 : Int32) G _ _ ls hf hH (lv_sub hl [3, 4, 2, 1, 0] rfl)
  · have hf := if_p hf c_41
    refine lv_aload_n hx hb dX6_rock_10 rfl (lv_at hl 0 rfl) ?_
    refine lv_ldc hx hb hown (hT _ tw_5_1) dX6_rock_11 ?_
    obtain ⟨r_44, G_45, hc_46, hf⟩ := bind2_inv hf
    refine aftI (runV C hE hA hH [0, 1, 2, 3, 4, 5, 6, 7, 8, 9, 10, 11] nC_M_M_0_11 (sC_M_M_0_11 g ad G J) (kX6_finds l g ad _ G J (-1000000001 : Int32) r_44 G_45  hc_46) tw_5_9 tw_5_10 tw_5_11 tw_1_5 tw_5_12 hdX6_finds 0 rfl rfl rfl rfl ⟨Nat.le_of_ble_eq_true rfl, Nat.le_of_ble_eq_true rfl⟩ rfl hl.1 (rest := []) rfl (Nat.le_of_ble_eq_true rfl) dX6_rock_13 ⟨Nat.zero_le _, Nat.zero_le _⟩) hA hH [0, 1, 2, 3, 4, 5, 6, 7, 8, 9, 10, 11] [] (sC_M_M_0_11 g ad G J) (sR_M_M_0_11 g ad G J) nR_M_M_0_11 dj_M_M_0_11 [0, 1, 2, 3, 4, 5, 6, 7, 8, 9, 10, 11] nP_M_M_0_11 (sP_M_M_0_11 g ad G J G_45 J) (fun H locs hH => ?_)
    have hf := Option.some.inj hf
    obtain ⟨h1, h2⟩ := Prod.mk.inj hf
    subst h1
    subst h2
    exact retI C hH rfl dX6_rock_16
def fX6_kind_c18  (G : M2) (J : J2) : Option (Int32 × M2) := bind2 (fX6_finds (-1000000001 : Int32) G J) (fun (r_26 : Int32) (G_27 : M2) => some (r_26, G_27))
def fX6_kind_c117  (y3 : Int32) (G : M2) (J : J2) : Option (Int32 × M2) := some (y3, G)
def fX6_kind_c109 (k_42 : Int32 → Int32 → Int32 → Int32 → Int32 → M2 → J2 → Option (Int32 × M2)) (y1 : Int32) (y2 : Int32) (y3 : Int32) (y5 : Int32) (z0 : Int32) (G : M2) (J : J2) : Option (Int32 × M2) := letb (y5 + (1 : Int32)) (fun v_29 : Int32 => k_42 y1 y2 y3 z0 v_29 G J)
def fX6_kind_c94 (k_42 : Int32 → Int32 → Int32 → Int32 → Int32 → M2 → J2 → Option (Int32 × M2)) (y1 : Int32) (y2 : Int32) (y4 : Int32) (y5 : Int32) (y6 : Int32) (z0 : Int32) (G : M2) (J : J2) : Option (Int32 × M2) := (if y6 ≤ y4 then fX6_kind_c109 k_42 y1 y2 z0 y5 y4 G J else fX6_kind_c109 k_42 y1 y2 z0 y5 y6 G J)
def fX6_kind_c42  : Nat → Int32 → Int32 → Int32 → Int32 → Int32 → M2 → J2 → Option (Int32 × M2)
  | 0, _, _, _, _, _, _, _ => none
  | n + 1, y1, y2, y3, y4, y5, G, J => (if (5 : Int32) < y5 then fX6_kind_c117  y3 G J else (fX6_puts y1 (0 : Int32) y5 G J).bind (fun (G_32 : M2) => (fX6_passes y2 G_32 J).bind (fun (G_34 : M2) => (fX6_its y1 (3 : Int32) G_34 J).bind (fun (r_36 : Int32) => (fX6_bits r_36).bind (fun (r_38 : Int32) => (fX6_moveAll_p3 (0 : Int32) G_34 J).bind (fun (G_40 : M2) => (if r_38 ≤ y4 then fX6_kind_c94 (fX6_kind_c42 n) y1 y2 y4 y5 r_38 y3 G_40 J else fX6_kind_c94 (fX6_kind_c42 n) y1 y2 y4 y5 r_38 y5 G_40 J)))))))
def fX6_kind (x1 : Int32) (x2 : Int32) (G : M2) (J : J2) : Option (Int32 × M2) := (fX6_isOne x1 G J).bind (fun (r_43 : Int32) => (if r_43 = 0 then fX6_kind_c18  G J else (fX6_in x2 (1 : Int32) (100 : Int32)).bind (fun (r_46 : Int32) => (if r_46 = 0 then fX6_kind_c18  G J else (fX6_moveAll_p3 (1 : Int32) G J).bind (fun (G_49 : M2) => fX6_kind_c42  FU x1 x2 (0 : Int32) (-1 : Int32) (0 : Int32) G_49 J)))))
def rmX6_kind : Room := { frames := 7, cells := 0, slots := 0, locals := 154 }
theorem hdX6_kind : yX6_kind.cls = yX6_kind.cls ∧ yX6_kind.cls ≠ "java/lang/invoke/MethodHandle" ∧ yX6_kind.cls ≠ "java/lang/invoke/VarHandle" ∧ (parseMethodDescriptor yX6_kind.desc).map (fun d => d.parameters.length) = some 2 := by decide +kernel
set_option maxHeartbeats 4000000 in
set_option maxRecDepth 100000 in
theorem kX6_kind (l : Launch) (g : Gl) (ad : Nat → Nat) (sz : Nat) (G : M2) (J : J2) (x1 : Int32) (x2 : Int32) (r : Int32) (G' : M2)  (hf : fX6_kind x1 x2 G J = some (r, G')) : MetI l yX6_kind (Cond.code yX6_kind cX6_kind 7 (some .int) :: wsL_law) rmX6_kind [.ref (ad 0), .int x1, .int x2] g (wM g ad G J) sz r (wM g ad G' J) := by
  refine openI (by decide +kernel) (Nat.le_of_ble_eq_true rfl) ?_
  intro p e s m args below meth c A C hE hA hH ls hl
  have hl : lv_has ls 7 [(0, .ref (ad 0)), (1, .int x1), (2, .int x2)] := hl
  have C : Cx p s m args meth c cX6_kind 7 (some .int) RX6 := C
  obtain ⟨hx, hb, hml, hown, hT, hr, hlk⟩ := id C
  rw [fX6_kind] at hf
  have j_18 : ∀ (G : M2) (H : Heap) (locs : List Loc) (ls : Array Slot), fX6_kind_c18  G J = some (r, G') → Hp g A s H locs (wM g ad G J) → lv_has ls 7 [(0, .ref (ad 0))] → W p l e rmX6_kind s m args below meth c H locs 0 0 (QI g A below args s r (wM g ad G' J)) (F0 m 18 ls []) := by
    intro G H locs  ls hf hH hl
    rw [fX6_kind_c18] at hf
    refine lv_aload_n hx hb dX6_kind_18 rfl (lv_at hl 0 rfl) ?_
    refine lv_ldc hx hb hown (hT _ tw_5_1) dX6_kind_19 ?_
    obtain ⟨r_26, G_27, hc_28, hf⟩ := bind2_inv hf
    refine aftI (runV C hE hA hH [0, 1, 2, 3, 4, 5, 6, 7, 8, 9, 10, 11] nC_M_M_0_11 (sC_M_M_0_11 g ad G J) (kX6_finds l g ad _ G J (-1000000001 : Int32) r_26 G_27  hc_28) tw_5_9 tw_5_10 tw_5_11 tw_1_5 tw_5_12 hdX6_finds 0 rfl rfl rfl rfl ⟨Nat.le_of_ble_eq_true rfl, Nat.le_of_ble_eq_true rfl⟩ rfl hl.1 (rest := []) rfl (Nat.le_of_ble_eq_true rfl) dX6_kind_21 ⟨Nat.zero_le _, Nat.zero_le _⟩) hA hH [0, 1, 2, 3, 4, 5, 6, 7, 8, 9, 10, 11] [] (sC_M_M_0_11 g ad G J) (sR_M_M_0_11 g ad G J) nR_M_M_0_11 dj_M_M_0_11 [0, 1, 2, 3, 4, 5, 6, 7, 8, 9, 10, 11] nP_M_M_0_11 (sP_M_M_0_11 g ad G J G_27 J) (fun H locs hH => ?_)
    have hf := Option.some.inj hf
    obtain ⟨h1, h2⟩ := Prod.mk.inj hf
    subst h1
    subst h2
    exact retI C hH rfl dX6_kind_24
  have lp_42 : ∀ (n_42 : Nat) (y1 : Int32) (y2 : Int32) (y3 : Int32) (y4 : Int32) (y5 : Int32) (G : M2) (H : Heap) (locs : List Loc) (ls : Array Slot), fX6_kind_c42  n_42 y1 y2 y3 y4 y5 G J = some (r, G') → Hp g A s H locs (wM g ad G J) → lv_has ls 7 [(0, .ref (ad 0)), (1, .int y1), (2, .int y2), (3, .int y3), (4, .int y4), (5, .int y5)] → W p l e rmX6_kind s m args below meth c H locs 0 0 (QI g A below args s r (wM g ad G' J)) (F0 m 42 ls []) := by
    intro n_42
    induction n_42 with
    | zero =>
      intro y1 y2 y3 y4 y5 G H locs  ls hf hH hl
      rw [fX6_kind_c42] at hf
      cases hf
    | succ n_42 ih_42 =>
      intro y1 y2 y3 y4 y5 G H locs  ls hf hH hl
      rw [fX6_kind_c42] at hf
      have j_117 : ∀ (y3 : Int32) (G : M2) (H : Heap) (locs : List Loc) (ls : Array Slot), fX6_kind_c117  y3 G J = some (r, G') → Hp g A s H locs (wM g ad G J) → lv_has ls 7 [(3, .int y3)] → W p l e rmX6_kind s m args below meth c H locs 0 0 (QI g A below args s r (wM g ad G' J)) (F0 m 117 ls []) := by
        intro y3 G H locs  ls hf hH hl
        rw [fX6_kind_c117] at hf
        refine lv_iload_n hx hb dX6_kind_117 rfl (lv_at hl 0 rfl) ?_
        have hf := Option.some.inj hf
        obtain ⟨h1, h2⟩ := Prod.mk.inj hf
        subst h1
        subst h2
        exact retI C hH rfl dX6_kind_118
      have j_94 : ∀ (y1 : Int32) (y2 : Int32) (y4 : Int32) (y5 : Int32) (y6 : Int32) (z0 : Int32) (G : M2) (H : Heap) (locs : List Loc) (ls : Array Slot), fX6_kind_c94 (fX6_kind_c42 n_42) y1 y2 y4 y5 y6 z0 G J = some (r, G') → Hp g A s H locs (wM g ad G J) → lv_has ls 7 [(0, .ref (ad 0)), (1, .int y1), (2, .int y2), (4, .int y4), (5, .int y5), (6, .int y6)] → W p l e rmX6_kind s m args below meth c H locs 0 0 (QI g A below args s r (wM g ad G' J)) (F0 m 94 ls [.int z0]) := by
        intro y1 y2 y4 y5 y6 z0 G H locs  ls hf hH hl
        rw [fX6_kind_c94] at hf
        have j_109 : ∀ (y1 : Int32) (y2 : Int32) (y3 : Int32) (y5 : Int32) (z0 : Int32) (G : M2) (H : Heap) (locs : List Loc) (ls : Array Slot), fX6_kind_c109 (fX6_kind_c42 n_42) y1 y2 y3 y5 z0 G J = some (r, G') → Hp g A s H locs (wM g ad G J) → lv_has ls 7 [(0, .ref (ad 0)), (1, .int y1), (2, .int y2), (3, .int y3), (5, .int y5)] → W p l e rmX6_kind s m args below meth c H locs 0 0 (QI g A below args s r (wM g ad G' J)) (F0 m 109 ls [.int z0]) := by
          intro y1 y2 y3 y5 z0 G H locs  ls hf hH hl
          rw [fX6_kind_c109] at hf
          refine lv_istore (lv' := [(4, .int z0), (0, .ref (ad 0)), (1, .int y1), (2, .int y2), (3, .int y3), (5, .int y5)]) hx hb dX6_kind_109 hl (by decide) rfl (fun ls hl => ?_)
          obtain ⟨v_29, ev_29⟩ : ∃ z : Int32, z = y5 + (1 : Int32) := ⟨_, rfl⟩
          have hf := letb_at hf v_29 ev_29
          refine lv_iinc (v := v_29) (lv' := [(5, .int v_29), (4, .int z0), (0, .ref (ad 0)), (1, .int y1), (2, .int y2), (3, .int y3)]) hx hb dX6_kind_111 hl (k := 5) rfl (by rw [ev_29]; rfl) (by decide) rfl (fun ls hl => ?_)
          refine lv_goto (tgt := 42) hx hb dX6_kind_114 (by decide) ?_
          exact ih_42 y1 y2 y3 z0 v_29 G _ _ ls hf hH (lv_sub hl [2, 3, 4, 5, 1, 0] rfl)
        refine lv_istore_n (lv' := [(3, .int z0), (0, .ref (ad 0)), (1, .int y1), (2, .int y2), (4, .int y4), (5, .int y5), (6, .int y6)]) hx hb dX6_kind_94 rfl hl (by decide) rfl (fun ls hl => ?_)
        refine lv_iload hx hb dX6_kind_95 (lv_at hl 6 rfl) ?_
        refine lv_iload hx hb dX6_kind_97 (lv_at hl 4 rfl) ?_
        refine lv_icmp_le (tgt := 107) hx hb dX6_kind_99 (by decide) (fun c_30 => ?_) (fun c_30 => ?_)
        · have hf := if_p hf c_30
          refine lv_iload hx hb dX6_kind_107 (lv_at hl 4 rfl) ?_
          exact j_109 y1 y2 z0 y5 y4 G _ _ ls hf hH (lv_sub hl [1, 2, 3, 0, 5] rfl)
        · have hf := if_n hf c_30
          refine lv_iload hx hb dX6_kind_102 (lv_at hl 6 rfl) ?_
          refine lv_goto (tgt := 109) hx hb dX6_kind_104 (by decide) ?_
          exact j_109 y1 y2 z0 y5 y6 G _ _ ls hf hH (lv_sub hl [1, 2, 3, 0, 5] rfl)
      refine lv_iload hx hb dX6_kind_42 (lv_at hl 5 rfl) ?_
      refine lv_iconst (v := 5) hx hb dX6_kind_44 (by decide) ?_
      refine lv_icmp_gt (tgt := 117) hx hb dX6_kind_45 (by decide) (fun c_31 => ?_) (fun c_31 => ?_)
      · have hf := if_p hf c_31
        exact j_117 y3 G _ _ ls hf hH (lv_sub hl [3] rfl)
      · have hf := if_n hf c_31
        refine lv_aload_n hx hb dX6_kind_48 rfl (lv_at hl 0 rfl) ?_
        refine lv_iload_n hx hb dX6_kind_49 rfl (lv_at hl 1 rfl) ?_
        refine lv_iconst (v := 0) hx hb dX6_kind_50 (by decide) ?_
        refine lv_iload hx hb dX6_kind_51 (lv_at hl 5 rfl) ?_
        obtain ⟨G_32, hc_33, hf⟩ := bind_inv hf
        refine aftV (runV C hE hA hH [0, 1, 2, 3, 4, 5, 6, 7, 8, 9, 10, 11] nC_M_M_0_11 (sC_M_M_0_11 g ad G J) (kX6_puts l g ad _ G J y1 (0 : Int32) y5 G_32  hc_33) tw_8_17 tw_8_18 tw_8_19 tw_1_5 tw_8_20 hdX6_puts 0 rfl rfl rfl rfl ⟨Nat.le_of_ble_eq_true rfl, Nat.le_of_ble_eq_true rfl⟩ rfl hl.1 (rest := []) rfl (Nat.le_of_ble_eq_true rfl) dX6_kind_53 ⟨Nat.zero_le _, Nat.zero_le _⟩) hA hH [0, 1, 2, 3, 4, 5, 6, 7, 8, 9, 10, 11] [] (sC_M_M_0_11 g ad G J) (sR_M_M_0_11 g ad G J) nR_M_M_0_11 dj_M_M_0_11 [0, 1, 2, 3, 4, 5, 6, 7, 8, 9, 10, 11] nP_M_M_0_11 (sP_M_M_0_11 g ad G J G_32 J) (fun H locs hH => ?_)
        refine lv_aload_n hx hb dX6_kind_56 rfl (lv_at hl 0 rfl) ?_
        refine lv_iload_n hx hb dX6_kind_57 rfl (lv_at hl 2 rfl) ?_
        obtain ⟨G_34, hc_35, hf⟩ := bind_inv hf
        refine aftV (runV C hE hA hH [0, 1, 2, 3, 4, 5, 6, 7, 8, 9, 10, 11] nC_M_M_0_11 (sC_M_M_0_11 g ad G_32 J) (kX6_passes l g ad _ G_32 J y2 G_34  hc_35) tw_16_9 tw_16_10 tw_16_11 tw_1_5 tw_16_12 hdX6_passes 0 rfl rfl rfl rfl ⟨Nat.le_of_ble_eq_true rfl, Nat.le_of_ble_eq_true rfl⟩ rfl hl.1 (rest := []) rfl (Nat.le_of_ble_eq_true rfl) dX6_kind_58 ⟨Nat.zero_le _, Nat.zero_le _⟩) hA hH [0, 1, 2, 3, 4, 5, 6, 7, 8, 9, 10, 11] [] (sC_M_M_0_11 g ad G_32 J) (sR_M_M_0_11 g ad G_32 J) nR_M_M_0_11 dj_M_M_0_11 [0, 1, 2, 3, 4, 5, 6, 7, 8, 9, 10, 11] nP_M_M_0_11 (sP_M_M_0_11 g ad G_32 J G_34 J) (fun H locs hH => ?_)
        refine lv_aload_n hx hb dX6_kind_61 rfl (lv_at hl 0 rfl) ?_
        refine lv_iload_n hx hb dX6_kind_62 rfl (lv_at hl 1 rfl) ?_
        refine lv_iconst (v := 3) hx hb dX6_kind_63 (by decide) ?_
        obtain ⟨r_36, hc_37, hf⟩ := bind_inv hf
        refine aftPI (runV C hE hA hH [0, 1, 2, 3, 4, 5, 6, 7, 8, 9, 10, 11] nC_M_M_0_11 (sC_M_M_0_11 g ad G_34 J) (kX6_its l g ad _ G_34 J y1 (3 : Int32) r_36  hc_37) tw_10_14 tw_10_15 tw_10_16 tw_1_5 tw_10_17 hdX6_its 0 rfl rfl rfl rfl ⟨Nat.le_of_ble_eq_true rfl, Nat.le_of_ble_eq_true rfl⟩ rfl hl.1 (rest := []) rfl (Nat.le_of_ble_eq_true rfl) dX6_kind_64 ⟨Nat.zero_le _, Nat.zero_le _⟩) ?_
        obtain ⟨r_38, hc_39, hf⟩ := bind_inv hf
        refine aftPI (runS C hE hA hH [] rfl rfl (kX6_bits l g ad _ r_36 r_38  hc_39) tw_17_14 tw_17_15 tw_1_5 tw_17_16 hdX6_bits rfl rfl ⟨Nat.le_of_ble_eq_true rfl, Nat.le_of_ble_eq_true rfl⟩ rfl hl.1 (rest := []) rfl (Nat.le_of_ble_eq_true rfl) dX6_kind_67 ⟨Nat.zero_le _, Nat.zero_le _⟩) ?_
        refine lv_istore (lv' := [(6, .int r_38), (0, .ref (ad 0)), (1, .int y1), (2, .int y2), (3, .int y3), (4, .int y4), (5, .int y5)]) hx hb dX6_kind_70 hl (by decide) rfl (fun ls hl => ?_)
        refine lv_aload_n hx hb dX6_kind_72 rfl (lv_at hl 1 rfl) ?_
        refine lv_iconst (v := 0) hx hb dX6_kind_73 (by decide) ?_
        refine lv_aload_n hx hb dX6_kind_74 rfl (lv_at hl 1 rfl) ?_
        refine gf_RX6_16 C hE hH 0 rfl rfl dX6_kind_75 ?_
        obtain ⟨G_40, hc_41, hf⟩ := bind_inv hf
        refine aftV (runV C hE hA hH [0, 1, 2, 3, 4, 5, 6, 7, 8, 9, 10, 11] nC_M_M_0_11 (sC_M_M_0_11 g ad G_34 J) (kX6_moveAll_p3 l g ad _ G_34 J (0 : Int32) G_40  hc_41) tw_19_6 tw_19_7 tw_19_8 tw_1_5 tw_19_9 hdX6_moveAll_p3 0 rfl rfl rfl rfl ⟨Nat.le_of_ble_eq_true rfl, Nat.le_of_ble_eq_true rfl⟩ rfl hl.1 (rest := []) rfl (Nat.le_of_ble_eq_true rfl) dX6_kind_78 ⟨Nat.zero_le _, Nat.zero_le _⟩) hA hH [0, 1, 2, 3, 4, 5, 6, 7, 8, 9, 10, 11] [] (sC_M_M_0_11 g ad G_34 J) (sR_M_M_0_11 g ad G_34 J) nR_M_M_0_11 dj_M_M_0_11 [0, 1, 2, 3, 4, 5, 6, 7, 8, 9, 10, 11] nP_M_M_0_11 (sP_M_M_0_11 g ad G_34 J G_40 J) (fun H locs hH => ?_)
        refine lv_iload hx hb dX6_kind_81 (lv_at hl 0 rfl) ?_
        refine lv_iload hx hb dX6_kind_83 (lv_at hl 5 rfl) ?_
        refine lv_icmp_le (tgt := 93) hx hb dX6_kind_85 (by decide) (fun c_42 => ?_) (fun c_42 => ?_)
        · have hf := if_p hf c_42
          refine lv_iload_n hx hb dX6_kind_93 rfl (lv_at hl 4 rfl) ?_
          exact j_94 y1 y2 y4 y5 r_38 y3 G_40 _ _ ls hf hH (lv_sub hl [1, 2, 3, 5, 6, 0] rfl)
        · have hf := if_n hf c_42
          refine lv_iload hx hb dX6_kind_88 (lv_at hl 6 rfl) ?_
          refine lv_goto (tgt := 94) hx hb dX6_kind_90 (by decide) ?_
          exact j_94 y1 y2 y4 y5 r_38 y5 G_40 _ _ ls hf hH (lv_sub hl [1, 2, 3, 5, 6, 0] rfl)
  refine lv_aload_n hx hb dX6_kind_0 rfl (lv_at hl 0 rfl) ?_
  refine lv_iload_n hx hb dX6_kind_1 rfl (lv_at hl 1 rfl) ?_
  obtain ⟨r_43, hc_44, hf⟩ := bind_inv hf
  refine aftPI (runV C hE hA hH [0, 1, 2, 3, 4, 5, 6, 7, 8, 9, 10, 11] nC_M_M_0_11 (sC_M_M_0_11 g ad G J) (kX6_isOne l g ad _ G J x1 r_43  hc_44) tw_10_6 tw_10_7 tw_10_8 tw_1_5 tw_10_9 hdX6_isOne 0 rfl rfl rfl rfl ⟨Nat.le_of_ble_eq_true rfl, Nat.le_of_ble_eq_true rfl⟩ rfl hl.1 (rest := []) rfl (Nat.le_of_ble_eq_true rfl) dX6_kind_2 ⟨Nat.zero_le _, Nat.zero_le _⟩) ?_
  refine lv_if_eq (tgt := 18) hx hb dX6_kind_5 (by decide) (fun c_45 => ?_) (fun c_45 => ?_)
  · have hf := if_p hf c_45
    exact j_18 G _ _ ls hf hH (lv_sub hl [0] rfl)
  · have hf := if_n hf c_45
    refine lv_iload_n hx hb dX6_kind_8 rfl (lv_at hl 2 rfl) ?_
    refine lv_iconst (v := 1) hx hb dX6_kind_9 (by decide) ?_
    refine lv_bipush (v := 100) hx hb dX6_kind_10 (by decide) ?_
    obtain ⟨r_46, hc_47, hf⟩ := bind_inv hf
    refine aftPI (runS C hE hA hH [] rfl rfl (kX6_in l g ad _ x2 (1 : Int32) (100 : Int32) r_46  hc_47) tw_5_2 tw_5_3 tw_1_5 tw_5_4 hdX6_in rfl rfl ⟨Nat.le_of_ble_eq_true rfl, Nat.le_of_ble_eq_true rfl⟩ rfl hl.1 (rest := []) rfl (Nat.le_of_ble_eq_true rfl) dX6_kind_12 ⟨Nat.zero_le _, Nat.zero_le _⟩) ?_
    refine lv_if_ne (tgt := 25) hx hb dX6_kind_15 (by decide) (fun c_48 => ?_) (fun c_48 => ?_)
    · have hf := if_n hf c_48
      refine lv_iconst (v := 0) hx hb dX6_kind_25 (by decide) ?_
      refine lv_istore_n (lv' := [(3, .int (0 : Int32)), (0, .ref (ad 0)), (1, .int x1), (2, .int x2)]) hx hb dX6_kind_26 rfl hl (by decide) rfl (fun ls hl => ?_)
      refine lv_iconst (v := (-1)) hx hb dX6_kind_27 (by decide) ?_
      refine lv_istore (lv' := [(4, .int (-1 : Int32)), (3, .int (0 : Int32)), (0, .ref (ad 0)), (1, .int x1), (2, .int x2)]) hx hb dX6_kind_28 hl (by decide) rfl (fun ls hl => ?_)
      refine lv_aload_n hx hb dX6_kind_30 rfl (lv_at hl 2 rfl) ?_
      refine lv_iconst (v := 1) hx hb dX6_kind_31 (by decide) ?_
      refine lv_aload_n hx hb dX6_kind_32 rfl (lv_at hl 2 rfl) ?_
      refine gf_RX6_16 C hE hH 0 rfl rfl dX6_kind_33 ?_
      obtain ⟨G_49, hc_50, hf⟩ := bind_inv hf
      refine aftV (runV C hE hA hH [0, 1, 2, 3, 4, 5, 6, 7, 8, 9, 10, 11] nC_M_M_0_11 (sC_M_M_0_11 g ad G J) (kX6_moveAll_p3 l g ad _ G J (1 : Int32) G_49  hc_50) tw_19_6 tw_19_7 tw_19_8 tw_1_5 tw_19_9 hdX6_moveAll_p3 0 rfl rfl rfl rfl ⟨Nat.le_of_ble_eq_true rfl, Nat.le_of_ble_eq_true rfl⟩ rfl hl.1 (rest := []) rfl (Nat.le_of_ble_eq_true rfl) dX6_kind_36 ⟨Nat.zero_le _, Nat.zero_le _⟩) hA hH [0, 1, 2, 3, 4, 5, 6, 7, 8, 9, 10, 11] [] (sC_M_M_0_11 g ad G J) (sR_M_M_0_11 g ad G J) nR_M_M_0_11 dj_M_M_0_11 [0, 1, 2, 3, 4, 5, 6, 7, 8, 9, 10, 11] nP_M_M_0_11 (sP_M_M_0_11 g ad G J G_49 J) (fun H locs hH => ?_)
      refine lv_iconst (v := 0) hx hb dX6_kind_39 (by decide) ?_
      refine lv_istore (lv' := [(5, .int (0 : Int32)), (4, .int (-1 : Int32)), (3, .int (0 : Int32)), (0, .ref (ad 0)), (1, .int x1), (2, .int x2)]) hx hb dX6_kind_40 hl (by decide) rfl (fun ls hl => ?_)
      exact lp_42 _ x1 x2 (0 : Int32) (-1 : Int32) (0 : Int32) G_49 _ _ ls hf hH (lv_sub hl [3, 4, 5, 2, 1, 0] rfl)
    · have hf := if_p hf c_48
      exact j_18 G _ _ ls hf hH (lv_sub hl [0] rfl)
def fX6_enough_c123  (z0 : Int32) (G : M2) (J : J2) : Option (Int32 × M2) := some (z0, G)
def fX6_enough_c109  (y2 : Int32) (y3 : Int32) (G : M2) (J : J2) : Option (Int32 × M2) := (if y3 = 0 then bind2 (fX6_finds (-1000000004 : Int32) G J) (fun (r_29 : Int32) (G_30 : M2) => fX6_enough_c123  r_29 G_30 J) else fX6_enough_c123  y2 G J)
def fX6_enough_c97 (k_30 : Int32 → Int32 → Int32 → M2 → J2 → Option (Int32 × M2)) (y1 : Int32) (y2 : Int32) (y3 : Int32) (G : M2) (J : J2) : Option (Int32 × M2) := (fX6_moveAll_p3 (0 : Int32) G J).bind (fun (G_32 : M2) => k_30 y1 y2 y3 G_32 J)
def fX6_enough_c90 (k_30 : Int32 → Int32 → Int32 → M2 → J2 → Option (Int32 × M2)) (k_56 : Int32 → Int32 → Int32 → Int32 → M2 → J2 → Option (Int32 × M2)) (y1 : Int32) (y2 : Int32) (y4 : Int32) (z0 : Int32) (G : M2) (J : J2) : Option (Int32 × M2) := letb (y4 + (1 : Int32)) (fun v_34 : Int32 => k_56 y1 y2 z0 v_34 G J)
def fX6_enough_c56 (k_30 : Int32 → Int32 → Int32 → M2 → J2 → Option (Int32 × M2)) : Nat → Int32 → Int32 → Int32 → Int32 → M2 → J2 → Option (Int32 × M2)
  | 0, _, _, _, _, _, _ => none
  | n + 1, y1, y2, y3, y4, G, J => (if y1 ≤ y4 then fX6_enough_c97 k_30 y1 y2 y3 G J else (if y3 = 0 then fX6_enough_c97 k_30 y1 y2 y3 G J else (fX6_oneDay G J).bind (fun (G_37 : M2) => grd (inb (5 : Int32) 75) (grd (inb (5 : Int32) 75) ((if (G_37 1 (5 : Int32).toNatClampNeg) = (G_37 3 (5 : Int32).toNatClampNeg) then fX6_enough_c90 k_30 (fX6_enough_c56 k_30 n) y1 y2 y4 (1 : Int32) G_37 J else fX6_enough_c90 k_30 (fX6_enough_c56 k_30 n) y1 y2 y4 (0 : Int32) G_37 J))))))
def fX6_enough_c30  : Nat → Int32 → Int32 → Int32 → M2 → J2 → Option (Int32 × M2)
  | 0, _, _, _, _, _ => none
  | n + 1, y1, y2, y3, G, J => (if (999 : Int32) ≤ y2 then fX6_enough_c109  y2 y3 G J else (if y3 = 0 then letb (y2 + (1 : Int32)) (fun v_44 : Int32 => grd (inb (2 : Int32) 75) (letb (st2 G 1 (upd (G 1) (2 : Int32).toNatClampNeg v_44)) (fun G_46 : M2 => fX6_enough_c56 (fX6_enough_c30 n) FU y1 v_44 (1 : Int32) (0 : Int32) G_46 J))) else fX6_enough_c109  y2 y3 G J))
def fX6_enough (x1 : Int32) (G : M2) (J : J2) : Option (Int32 × M2) := (fX6_in x1 (1 : Int32) (60 : Int32)).bind (fun (r_47 : Int32) => (if r_47 = 0 then bind2 (fX6_finds (-1000000001 : Int32) G J) (fun (r_52 : Int32) (G_53 : M2) => some (r_52, G_53)) else (fX6_moveAll_p3 (1 : Int32) G J).bind (fun (G_50 : M2) => fX6_enough_c30  FU x1 (-1 : Int32) (0 : Int32) G_50 J)))
def rmX6_enough : Room := { frames := 6, cells := 0, slots := 0, locals := 132 }
theorem hdX6_enough : yX6_enough.cls = yX6_enough.cls ∧ yX6_enough.cls ≠ "java/lang/invoke/MethodHandle" ∧ yX6_enough.cls ≠ "java/lang/invoke/VarHandle" ∧ (parseMethodDescriptor yX6_enough.desc).map (fun d => d.parameters.length) = some 1 := by decide +kernel
set_option maxHeartbeats 4000000 in
set_option maxRecDepth 100000 in
theorem kX6_enough (l : Launch) (g : Gl) (ad : Nat → Nat) (sz : Nat) (G : M2) (J : J2) (x1 : Int32) (r : Int32) (G' : M2)  (hf : fX6_enough x1 G J = some (r, G')) : MetI l yX6_enough (Cond.code yX6_enough cX6_enough 5 (some .int) :: wsL_law) rmX6_enough [.ref (ad 0), .int x1] g (wM g ad G J) sz r (wM g ad G' J) := by
  refine openI (by decide +kernel) (Nat.le_of_ble_eq_true rfl) ?_
  intro p e s m args below meth c A C hE hA hH ls hl
  have hl : lv_has ls 5 [(0, .ref (ad 0)), (1, .int x1)] := hl
  have C : Cx p s m args meth c cX6_enough 5 (some .int) RX6 := C
  obtain ⟨hx, hb, hml, hown, hT, hr, hlk⟩ := id C
  rw [fX6_enough] at hf
  have lp_30 : ∀ (n_30 : Nat) (y1 : Int32) (y2 : Int32) (y3 : Int32) (G : M2) (H : Heap) (locs : List Loc) (ls : Array Slot), fX6_enough_c30  n_30 y1 y2 y3 G J = some (r, G') → Hp g A s H locs (wM g ad G J) → lv_has ls 5 [(0, .ref (ad 0)), (1, .int y1), (2, .int y2), (3, .int y3)] → W p l e rmX6_enough s m args below meth c H locs 0 0 (QI g A below args s r (wM g ad G' J)) (F0 m 30 ls []) := by
    intro n_30
    induction n_30 with
    | zero =>
      intro y1 y2 y3 G H locs  ls hf hH hl
      rw [fX6_enough_c30] at hf
      cases hf
    | succ n_30 ih_30 =>
      intro y1 y2 y3 G H locs  ls hf hH hl
      rw [fX6_enough_c30] at hf
      have j_109 : ∀ (y2 : Int32) (y3 : Int32) (G : M2) (H : Heap) (locs : List Loc) (ls : Array Slot), fX6_enough_c109  y2 y3 G J = some (r, G') → Hp g A s H locs (wM g ad G J) → lv_has ls 5 [(0, .ref (ad 0)), (2, .int y2), (3, .int y3)] → W p l e rmX6_enough s m args below meth c H locs 0 0 (QI g A below args s r (wM g ad G' J)) (F0 m 109 ls []) := by
        intro y2 y3 G H locs  ls hf hH hl
        rw [fX6_enough_c109] at hf
        have j_123 : ∀ (z0 : Int32) (G : M2) (H : Heap) (locs : List Loc) (ls : Array Slot), fX6_enough_c123  z0 G J = some (r, G') → Hp g A s H locs (wM g ad G J) → lv_has ls 5 [] → W p l e rmX6_enough s m args below meth c H locs 0 0 (QI g A below args s r (wM g ad G' J)) (F0 m 123 ls [.int z0]) := by
          intro z0 G H locs  ls hf hH hl
          rw [fX6_enough_c123] at hf
          have hf := Option.some.inj hf
          obtain ⟨h1, h2⟩ := Prod.mk.inj hf
          subst h1
          subst h2
          exact retI C hH rfl dX6_enough_123
        refine lv_iload_n hx hb dX6_enough_109 rfl (lv_at hl 2 rfl) ?_
        refine lv_if_eq (tgt := 117) hx hb dX6_enough_110 (by decide) (fun c_28 => ?_) (fun c_28 => ?_)
        · have hf := if_p hf c_28
          refine lv_aload_n hx hb dX6_enough_117 rfl (lv_at hl 0 rfl) ?_
          refine lv_ldc hx hb hown (hT _ tw_20_8) dX6_enough_118 ?_
          obtain ⟨r_29, G_30, hc_31, hf⟩ := bind2_inv hf
          refine aftI (runV C hE hA hH [0, 1, 2, 3, 4, 5, 6, 7, 8, 9, 10, 11] nC_M_M_0_11 (sC_M_M_0_11 g ad G J) (kX6_finds l g ad _ G J (-1000000004 : Int32) r_29 G_30  hc_31) tw_5_9 tw_5_10 tw_5_11 tw_1_5 tw_5_12 hdX6_finds 0 rfl rfl rfl rfl ⟨Nat.le_of_ble_eq_true rfl, Nat.le_of_ble_eq_true rfl⟩ rfl hl.1 (rest := []) rfl (Nat.le_of_ble_eq_true rfl) dX6_enough_120 ⟨Nat.zero_le _, Nat.zero_le _⟩) hA hH [0, 1, 2, 3, 4, 5, 6, 7, 8, 9, 10, 11] [] (sC_M_M_0_11 g ad G J) (sR_M_M_0_11 g ad G J) nR_M_M_0_11 dj_M_M_0_11 [0, 1, 2, 3, 4, 5, 6, 7, 8, 9, 10, 11] nP_M_M_0_11 (sP_M_M_0_11 g ad G J G_30 J) (fun H locs hH => ?_)
          exact j_123 r_29 G_30 _ _ ls hf hH (lv_sub hl [] rfl)
        · have hf := if_n hf c_28
          refine lv_iload_n hx hb dX6_enough_113 rfl (lv_at hl 1 rfl) ?_
          refine lv_goto (tgt := 123) hx hb dX6_enough_114 (by decide) ?_
          exact j_123 y2 G _ _ ls hf hH (lv_sub hl [] rfl)
      have lp_56 : ∀ (n_56 : Nat) (y1 : Int32) (y2 : Int32) (y3 : Int32) (y4 : Int32) (G : M2) (H : Heap) (locs : List Loc) (ls : Array Slot), fX6_enough_c56 (fX6_enough_c30 n_30) n_56 y1 y2 y3 y4 G J = some (r, G') → Hp g A s H locs (wM g ad G J) → lv_has ls 5 [(0, .ref (ad 0)), (1, .int y1), (2, .int y2), (3, .int y3), (4, .int y4)] → W p l e rmX6_enough s m args below meth c H locs 0 0 (QI g A below args s r (wM g ad G' J)) (F0 m 56 ls []) := by
        intro n_56
        induction n_56 with
        | zero =>
          intro y1 y2 y3 y4 G H locs  ls hf hH hl
          rw [fX6_enough_c56] at hf
          cases hf
        | succ n_56 ih_56 =>
          intro y1 y2 y3 y4 G H locs  ls hf hH hl
          rw [fX6_enough_c56] at hf
          have j_97 : ∀ (y1 : Int32) (y2 : Int32) (y3 : Int32) (G : M2) (H : Heap) (locs : List Loc) (ls : Array Slot), fX6_enough_c97 (fX6_enough_c30 n_30) y1 y2 y3 G J = some (r, G') → Hp g A s H locs (wM g ad G J) → lv_has ls 5 [(0, .ref (ad 0)), (1, .int y1), (2, .int y2), (3, .int y3)] → W p l e rmX6_enough s m args below meth c H locs 0 0 (QI g A below args s r (wM g ad G' J)) (F0 m 97 ls []) := by
            intro y1 y2 y3 G H locs  ls hf hH hl
            rw [fX6_enough_c97] at hf
            refine lv_aload_n hx hb dX6_enough_97 rfl (lv_at hl 0 rfl) ?_
            refine lv_iconst (v := 0) hx hb dX6_enough_98 (by decide) ?_
            refine lv_aload_n hx hb dX6_enough_99 rfl (lv_at hl 0 rfl) ?_
            refine gf_RX6_16 C hE hH 0 rfl rfl dX6_enough_100 ?_
            obtain ⟨G_32, hc_33, hf⟩ := bind_inv hf
            refine aftV (runV C hE hA hH [0, 1, 2, 3, 4, 5, 6, 7, 8, 9, 10, 11] nC_M_M_0_11 (sC_M_M_0_11 g ad G J) (kX6_moveAll_p3 l g ad _ G J (0 : Int32) G_32  hc_33) tw_19_6 tw_19_7 tw_19_8 tw_1_5 tw_19_9 hdX6_moveAll_p3 0 rfl rfl rfl rfl ⟨Nat.le_of_ble_eq_true rfl, Nat.le_of_ble_eq_true rfl⟩ rfl hl.1 (rest := []) rfl (Nat.le_of_ble_eq_true rfl) dX6_enough_103 ⟨Nat.zero_le _, Nat.zero_le _⟩) hA hH [0, 1, 2, 3, 4, 5, 6, 7, 8, 9, 10, 11] [] (sC_M_M_0_11 g ad G J) (sR_M_M_0_11 g ad G J) nR_M_M_0_11 dj_M_M_0_11 [0, 1, 2, 3, 4, 5, 6, 7, 8, 9, 10, 11] nP_M_M_0_11 (sP_M_M_0_11 g ad G J G_32 J) (fun H locs hH => ?_)
            refine lv_goto (tgt := 30) hx hb dX6_enough_106 (by decide) ?_
            exact ih_30 y1 y2 y3 G_32 _ _ ls hf hH (lv_sub hl [0, 1, 2, 3] rfl)
          have j_90 : ∀ (y1 : Int32) (y2 : Int32) (y4 : Int32) (z0 : Int32) (G : M2) (H : Heap) (locs : List Loc) (ls : Array Slot), fX6_enough_c90 (fX6_enough_c30 n_30) (fX6_enough_c56 (fX6_enough_c30 n_30) n_56) y1 y2 y4 z0 G J = some (r, G') → Hp g A s H locs (wM g ad G J) → lv_has ls 5 [(0, .ref (ad 0)), (1, .int y1), (2, .int y2), (4, .int y4)] → W p l e rmX6_enough s m args below meth c H locs 0 0 (QI g A below args s r (wM g ad G' J)) (F0 m 90 ls [.int z0]) := by
            intro y1 y2 y4 z0 G H locs  ls hf hH hl
            rw [fX6_enough_c90] at hf
            refine lv_istore_n (lv' := [(3, .int z0), (0, .ref (ad 0)), (1, .int y1), (2, .int y2), (4, .int y4)]) hx hb dX6_enough_90 rfl hl (by decide) rfl (fun ls hl => ?_)
            obtain ⟨v_34, ev_34⟩ : ∃ z : Int32, z = y4 + (1 : Int32) := ⟨_, rfl⟩
            have hf := letb_at hf v_34 ev_34
            refine lv_iinc (v := v_34) (lv' := [(4, .int v_34), (3, .int z0), (0, .ref (ad 0)), (1, .int y1), (2, .int y2)]) hx hb dX6_enough_91 hl (k := 4) rfl (by rw [ev_34]; rfl) (by decide) rfl (fun ls hl => ?_)
            refine lv_goto (tgt := 56) hx hb dX6_enough_94 (by decide) ?_
            exact ih_56 y1 y2 z0 v_34 G _ _ ls hf hH (lv_sub hl [2, 3, 4, 1, 0] rfl)
          refine lv_iload hx hb dX6_enough_56 (lv_at hl 4 rfl) ?_
          refine lv_iload_n hx hb dX6_enough_58 rfl (lv_at hl 1 rfl) ?_
          refine lv_icmp_ge (tgt := 97) hx hb dX6_enough_59 (by decide) (fun c_35 => ?_) (fun c_35 => ?_)
          · have hf := if_p hf c_35
            exact j_97 y1 y2 y3 G _ _ ls hf hH (lv_sub hl [0, 1, 2, 3] rfl)
          · have hf := if_n hf c_35
            refine lv_iload_n hx hb dX6_enough_62 rfl (lv_at hl 3 rfl) ?_
            refine lv_if_eq (tgt := 97) hx hb dX6_enough_63 (by decide) (fun c_36 => ?_) (fun c_36 => ?_)
            · have hf := if_p hf c_36
              exact j_97 y1 y2 y3 G _ _ ls hf hH (lv_sub hl [0, 1, 2, 3] rfl)
            · have hf := if_n hf c_36
              refine lv_aload_n hx hb dX6_enough_66 rfl (lv_at hl 0 rfl) ?_
              obtain ⟨G_37, hc_38, hf⟩ := bind_inv hf
              refine aftV (runV C hE hA hH [0, 1, 2, 3, 4, 5, 6, 7, 8, 9, 10, 11] nC_M_M_0_11 (sC_M_M_0_11 g ad G J) (kX6_oneDay l g ad _ G J G_37  hc_38) tw_16_13 tw_16_14 tw_16_15 tw_1_5 tw_16_16 hdX6_oneDay 0 rfl rfl rfl rfl ⟨Nat.le_of_ble_eq_true rfl, Nat.le_of_ble_eq_true rfl⟩ rfl hl.1 (rest := []) rfl (Nat.le_of_ble_eq_true rfl) dX6_enough_67 ⟨Nat.zero_le _, Nat.zero_le _⟩) hA hH [0, 1, 2, 3, 4, 5, 6, 7, 8, 9, 10, 11] [] (sC_M_M_0_11 g ad G J) (sR_M_M_0_11 g ad G J) nR_M_M_0_11 dj_M_M_0_11 [0, 1, 2, 3, 4, 5, 6, 7, 8, 9, 10, 11] nP_M_M_0_11 (sP_M_M_0_11 g ad G J G_37 J) (fun H locs hH => ?_)
              refine lv_aload_n hx hb dX6_enough_70 rfl (lv_at hl 0 rfl) ?_
              refine gf_RX6_7 C hE hH 0 rfl rfl dX6_enough_71 ?_
              refine lv_iconst (v := 5) hx hb dX6_enough_74 (by decide) ?_
              obtain ⟨hi_39, hf⟩ := grd_inv hf
              refine xiald C hE hH 1 rfl hi_39 dX6_enough_75 ?_
              refine lv_aload_n hx hb dX6_enough_76 rfl (lv_at hl 0 rfl) ?_
              refine gf_RX6_16 C hE hH 0 rfl rfl dX6_enough_77 ?_
              refine lv_iconst (v := 5) hx hb dX6_enough_80 (by decide) ?_
              obtain ⟨hi_40, hf⟩ := grd_inv hf
              refine xiald C hE hH 3 rfl hi_40 dX6_enough_81 ?_
              refine lv_icmp_ne (tgt := 89) hx hb dX6_enough_82 (by decide) (fun c_41 => ?_) (fun c_41 => ?_)
              · have hf := if_n hf c_41
                refine lv_iconst (v := 0) hx hb dX6_enough_89 (by decide) ?_
                exact j_90 y1 y2 y4 (0 : Int32) G_37 _ _ ls hf hH (lv_sub hl [0, 1, 2, 4] rfl)
              · have hf := if_p hf c_41
                refine lv_iconst (v := 1) hx hb dX6_enough_85 (by decide) ?_
                refine lv_goto (tgt := 90) hx hb dX6_enough_86 (by decide) ?_
                exact j_90 y1 y2 y4 (1 : Int32) G_37 _ _ ls hf hH (lv_sub hl [0, 1, 2, 4] rfl)
      refine lv_iload_n hx hb dX6_enough_30 rfl (lv_at hl 2 rfl) ?_
      refine lv_sipush (v := 999) hx hb dX6_enough_31 (by decide) ?_
      refine lv_icmp_ge (tgt := 109) hx hb dX6_enough_34 (by decide) (fun c_42 => ?_) (fun c_42 => ?_)
      · have hf := if_p hf c_42
        exact j_109 y2 y3 G _ _ ls hf hH (lv_sub hl [0, 2, 3] rfl)
      · have hf := if_n hf c_42
        refine lv_iload_n hx hb dX6_enough_37 rfl (lv_at hl 3 rfl) ?_
        refine lv_if_ne (tgt := 109) hx hb dX6_enough_38 (by decide) (fun c_43 => ?_) (fun c_43 => ?_)
        · have hf := if_n hf c_43
          exact j_109 y2 y3 G _ _ ls hf hH (lv_sub hl [0, 2, 3] rfl)
        · have hf := if_p hf c_43
          obtain ⟨v_44, ev_44⟩ : ∃ z : Int32, z = y2 + (1 : Int32) := ⟨_, rfl⟩
          have hf := letb_at hf v_44 ev_44
          refine lv_iinc (v := v_44) (lv' := [(2, .int v_44), (0, .ref (ad 0)), (1, .int y1), (3, .int y3)]) hx hb dX6_enough_41 hl (k := 2) rfl (by rw [ev_44]; rfl) (by decide) rfl (fun ls hl => ?_)
          refine lv_aload_n hx hb dX6_enough_44 rfl (lv_at hl 1 rfl) ?_
          refine gf_RX6_7 C hE hH 0 rfl rfl dX6_enough_45 ?_
          refine lv_iconst (v := 2) hx hb dX6_enough_48 (by decide) ?_
          refine lv_iload_n hx hb dX6_enough_49 rfl (lv_at hl 0 rfl) ?_
          obtain ⟨hi_45, hf⟩ := grd_inv hf
          refine xiast C hE hH 1 rfl hi_45 (fun q : M2 => wM g ad q J) (st2 G 1 (upd (G 1) (2 : Int32).toNatClampNeg v_44)) rfl dX6_enough_50 (fun G_46 eG_46 H locs hH => ?_)
          have hf := letb_at hf G_46 eG_46
          refine lv_iconst (v := 1) hx hb dX6_enough_51 (by decide) ?_
          refine lv_istore_n (lv' := [(3, .int (1 : Int32)), (2, .int v_44), (0, .ref (ad 0)), (1, .int y1)]) hx hb dX6_enough_52 rfl hl (by decide) rfl (fun ls hl => ?_)
          refine lv_iconst (v := 0) hx hb dX6_enough_53 (by decide) ?_
          refine lv_istore (lv' := [(4, .int (0 : Int32)), (3, .int (1 : Int32)), (2, .int v_44), (0, .ref (ad 0)), (1, .int y1)]) hx hb dX6_enough_54 hl (by decide) rfl (fun ls hl => ?_)
          exact lp_56 _ y1 v_44 (1 : Int32) (0 : Int32) G_46 _ _ ls hf hH (lv_sub hl [3, 4, 2, 1, 0] rfl)
  refine lv_iload_n hx hb dX6_enough_0 rfl (lv_at hl 1 rfl) ?_
  refine lv_iconst (v := 1) hx hb dX6_enough_1 (by decide) ?_
  refine lv_bipush (v := 60) hx hb dX6_enough_2 (by decide) ?_
  obtain ⟨r_47, hc_48, hf⟩ := bind_inv hf
  refine aftPI (runS C hE hA hH [] rfl rfl (kX6_in l g ad _ x1 (1 : Int32) (60 : Int32) r_47  hc_48) tw_5_2 tw_5_3 tw_1_5 tw_5_4 hdX6_in rfl rfl ⟨Nat.le_of_ble_eq_true rfl, Nat.le_of_ble_eq_true rfl⟩ rfl hl.1 (rest := []) rfl (Nat.le_of_ble_eq_true rfl) dX6_enough_4 ⟨Nat.zero_le _, Nat.zero_le _⟩) ?_
  refine lv_if_ne (tgt := 17) hx hb dX6_enough_7 (by decide) (fun c_49 => ?_) (fun c_49 => ?_)
  · have hf := if_n hf c_49
    refine lv_iconst (v := (-1)) hx hb dX6_enough_17 (by decide) ?_
    refine lv_istore_n (lv' := [(2, .int (-1 : Int32)), (0, .ref (ad 0)), (1, .int x1)]) hx hb dX6_enough_18 rfl hl (by decide) rfl (fun ls hl => ?_)
    refine lv_iconst (v := 0) hx hb dX6_enough_19 (by decide) ?_
    refine lv_istore_n (lv' := [(3, .int (0 : Int32)), (2, .int (-1 : Int32)), (0, .ref (ad 0)), (1, .int x1)]) hx hb dX6_enough_20 rfl hl (by decide) rfl (fun ls hl => ?_)
    refine lv_aload_n hx hb dX6_enough_21 rfl (lv_at hl 2 rfl) ?_
    refine lv_iconst (v := 1) hx hb dX6_enough_22 (by decide) ?_
    refine lv_aload_n hx hb dX6_enough_23 rfl (lv_at hl 2 rfl) ?_
    refine gf_RX6_16 C hE hH 0 rfl rfl dX6_enough_24 ?_
    obtain ⟨G_50, hc_51, hf⟩ := bind_inv hf
    refine aftV (runV C hE hA hH [0, 1, 2, 3, 4, 5, 6, 7, 8, 9, 10, 11] nC_M_M_0_11 (sC_M_M_0_11 g ad G J) (kX6_moveAll_p3 l g ad _ G J (1 : Int32) G_50  hc_51) tw_19_6 tw_19_7 tw_19_8 tw_1_5 tw_19_9 hdX6_moveAll_p3 0 rfl rfl rfl rfl ⟨Nat.le_of_ble_eq_true rfl, Nat.le_of_ble_eq_true rfl⟩ rfl hl.1 (rest := []) rfl (Nat.le_of_ble_eq_true rfl) dX6_enough_27 ⟨Nat.zero_le _, Nat.zero_le _⟩) hA hH [0, 1, 2, 3, 4, 5, 6, 7, 8, 9, 10, 11] [] (sC_M_M_0_11 g ad G J) (sR_M_M_0_11 g ad G J) nR_M_M_0_11 dj_M_M_0_11 [0, 1, 2, 3, 4, 5, 6, 7, 8, 9, 10, 11] nP_M_M_0_11 (sP_M_M_0_11 g ad G J G_50 J) (fun H locs hH => ?_)
    exact lp_30 _ x1 (-1 : Int32) (0 : Int32) G_50 _ _ ls hf hH (lv_sub hl [2, 3, 1, 0] rfl)
  · have hf := if_p hf c_49
    refine lv_aload_n hx hb dX6_enough_10 rfl (lv_at hl 0 rfl) ?_
    refine lv_ldc hx hb hown (hT _ tw_5_1) dX6_enough_11 ?_
    obtain ⟨r_52, G_53, hc_54, hf⟩ := bind2_inv hf
    refine aftI (runV C hE hA hH [0, 1, 2, 3, 4, 5, 6, 7, 8, 9, 10, 11] nC_M_M_0_11 (sC_M_M_0_11 g ad G J) (kX6_finds l g ad _ G J (-1000000001 : Int32) r_52 G_53  hc_54) tw_5_9 tw_5_10 tw_5_11 tw_1_5 tw_5_12 hdX6_finds 0 rfl rfl rfl rfl ⟨Nat.le_of_ble_eq_true rfl, Nat.le_of_ble_eq_true rfl⟩ rfl hl.1 (rest := []) rfl (Nat.le_of_ble_eq_true rfl) dX6_enough_13 ⟨Nat.zero_le _, Nat.zero_le _⟩) hA hH [0, 1, 2, 3, 4, 5, 6, 7, 8, 9, 10, 11] [] (sC_M_M_0_11 g ad G J) (sR_M_M_0_11 g ad G J) nR_M_M_0_11 dj_M_M_0_11 [0, 1, 2, 3, 4, 5, 6, 7, 8, 9, 10, 11] nP_M_M_0_11 (sP_M_M_0_11 g ad G J G_53 J) (fun H locs hH => ?_)
    have hf := Option.some.inj hf
    obtain ⟨h1, h2⟩ := Prod.mk.inj hf
    subst h1
    subst h2
    exact retI C hH rfl dX6_enough_16
def fX6_wordsOfAll_c33  (y1 : Int32) (G : M2) (J : J2) : Option (Int32) := some y1
def fX6_wordsOfAll_c4  : Nat → Int32 → Int32 → M2 → J2 → Option (Int32)
  | 0, _, _, _, _ => none
  | n + 1, y1, y2, G, J => grd (inb (6 : Int32) 75) ((if (G 1 (6 : Int32).toNatClampNeg) ≤ y2 then fX6_wordsOfAll_c33  y1 G J else (fX6_its y2 (3 : Int32) G J).bind (fun (r_11 : Int32) => (fX6_bits r_11).bind (fun (r_13 : Int32) => letb (y1 + r_13) (fun v_15 : Int32 => letb (y2 + (1 : Int32)) (fun v_16 : Int32 => fX6_wordsOfAll_c4 n v_15 v_16 G J))))))
def fX6_wordsOfAll (G : M2) (J : J2) : Option (Int32) := fX6_wordsOfAll_c4  FU (0 : Int32) (0 : Int32) G J
def rmX6_wordsOfAll : Room := { frames := 1, cells := 0, slots := 0, locals := 22 }
theorem hdX6_wordsOfAll : yX6_wordsOfAll.cls = yX6_wordsOfAll.cls ∧ yX6_wordsOfAll.cls ≠ "java/lang/invoke/MethodHandle" ∧ yX6_wordsOfAll.cls ≠ "java/lang/invoke/VarHandle" ∧ (parseMethodDescriptor yX6_wordsOfAll.desc).map (fun d => d.parameters.length) = some 0 := by decide +kernel
set_option maxHeartbeats 4000000 in
set_option maxRecDepth 100000 in
theorem kX6_wordsOfAll (l : Launch) (g : Gl) (ad : Nat → Nat) (sz : Nat) (G : M2) (J : J2)  (r : Int32)  (hf : fX6_wordsOfAll G J = some r) : MetPI l yX6_wordsOfAll (Cond.code yX6_wordsOfAll cX6_wordsOfAll 3 (some .int) :: wsL_law) rmX6_wordsOfAll [.ref (ad 0)] g (wM g ad G J) sz r := by
  refine openPI (by decide +kernel) (Nat.le_of_ble_eq_true rfl) ?_
  intro p e s m args below meth c A C hE hA hH ls hl
  have hl : lv_has ls 3 [(0, .ref (ad 0))] := hl
  have C : Cx p s m args meth c cX6_wordsOfAll 3 (some .int) RX6 := C
  obtain ⟨hx, hb, hml, hown, hT, hr, hlk⟩ := id C
  rw [fX6_wordsOfAll] at hf
  have lp_4 : ∀ (n_4 : Nat) (y1 : Int32) (y2 : Int32) (ls : Array Slot), fX6_wordsOfAll_c4  n_4 y1 y2 G J = some r → lv_has ls 3 [(0, .ref (ad 0)), (1, .int y1), (2, .int y2)] → W p l e rmX6_wordsOfAll s m args below meth c s.heap [] 0 0 (QPI below args s r) (F0 m 4 ls []) := by
    intro n_4
    induction n_4 with
    | zero =>
      intro y1 y2  ls hf hl
      rw [fX6_wordsOfAll_c4] at hf
      cases hf
    | succ n_4 ih_4 =>
      intro y1 y2  ls hf hl
      rw [fX6_wordsOfAll_c4] at hf
      have j_33 : ∀ (y1 : Int32) (ls : Array Slot), fX6_wordsOfAll_c33  y1 G J = some r → lv_has ls 3 [(1, .int y1)] → W p l e rmX6_wordsOfAll s m args below meth c s.heap [] 0 0 (QPI below args s r) (F0 m 33 ls []) := by
        intro y1  ls hf hl
        rw [fX6_wordsOfAll_c33] at hf
        refine lv_iload_n hx hb dX6_wordsOfAll_33 rfl (lv_at hl 0 rfl) ?_
        have h1 := Option.some.inj hf
        subst h1
        exact retPI C rfl dX6_wordsOfAll_34
      refine lv_iload_n hx hb dX6_wordsOfAll_4 rfl (lv_at hl 2 rfl) ?_
      refine lv_aload_n hx hb dX6_wordsOfAll_5 rfl (lv_at hl 0 rfl) ?_
      refine gf_RX6_7 C hE hH 0 rfl rfl dX6_wordsOfAll_6 ?_
      refine lv_bipush (v := 6) hx hb dX6_wordsOfAll_9 (by decide) ?_
      obtain ⟨hi_9, hf⟩ := grd_inv hf
      refine xiald C hE hH 1 rfl hi_9 dX6_wordsOfAll_11 ?_
      refine lv_icmp_ge (tgt := 33) hx hb dX6_wordsOfAll_12 (by decide) (fun c_10 => ?_) (fun c_10 => ?_)
      · have hf := if_p hf c_10
        exact j_33 y1 ls hf (lv_sub hl [1] rfl)
      · have hf := if_n hf c_10
        refine lv_iload_n hx hb dX6_wordsOfAll_15 rfl (lv_at hl 1 rfl) ?_
        refine lv_aload_n hx hb dX6_wordsOfAll_16 rfl (lv_at hl 0 rfl) ?_
        refine lv_iload_n hx hb dX6_wordsOfAll_17 rfl (lv_at hl 2 rfl) ?_
        refine lv_iconst (v := 3) hx hb dX6_wordsOfAll_18 (by decide) ?_
        obtain ⟨r_11, hc_12, hf⟩ := bind_inv hf
        refine aftPI (runV C hE hA hH [0, 1, 2, 3, 4, 5, 6, 7, 8, 9, 10, 11] nC_M_M_0_11 (sC_M_M_0_11 g ad G J) (kX6_its l g ad _ G J y2 (3 : Int32) r_11  hc_12) tw_10_14 tw_10_15 tw_10_16 tw_1_5 tw_10_17 hdX6_its 0 rfl rfl rfl rfl ⟨Nat.le_of_ble_eq_true rfl, Nat.le_of_ble_eq_true rfl⟩ rfl hl.1 (rest := [.int y1]) rfl (Nat.le_of_ble_eq_true rfl) dX6_wordsOfAll_19 ⟨Nat.zero_le _, Nat.zero_le _⟩) ?_
        obtain ⟨r_13, hc_14, hf⟩ := bind_inv hf
        refine aftPI (runS C hE hA hH [] rfl rfl (kX6_bits l g ad _ r_11 r_13  hc_14) tw_17_14 tw_17_15 tw_1_5 tw_17_16 hdX6_bits rfl rfl ⟨Nat.le_of_ble_eq_true rfl, Nat.le_of_ble_eq_true rfl⟩ rfl hl.1 (rest := [.int y1]) rfl (Nat.le_of_ble_eq_true rfl) dX6_wordsOfAll_22 ⟨Nat.zero_le _, Nat.zero_le _⟩) ?_
        refine lv_iadd hx hb dX6_wordsOfAll_25 ?_
        refine lv_topi (fun v_15 ev_15 => ?_)
        have hf := letb_at hf v_15 ev_15
        refine lv_istore_n (lv' := [(1, .int v_15), (0, .ref (ad 0)), (2, .int y2)]) hx hb dX6_wordsOfAll_26 rfl hl (by decide) rfl (fun ls hl => ?_)
        obtain ⟨v_16, ev_16⟩ : ∃ z : Int32, z = y2 + (1 : Int32) := ⟨_, rfl⟩
        have hf := letb_at hf v_16 ev_16
        refine lv_iinc (v := v_16) (lv' := [(2, .int v_16), (1, .int v_15), (0, .ref (ad 0))]) hx hb dX6_wordsOfAll_27 hl (k := 2) rfl (by rw [ev_16]; rfl) (by decide) rfl (fun ls hl => ?_)
        refine lv_goto (tgt := 4) hx hb dX6_wordsOfAll_30 (by decide) ?_
        exact ih_4 v_15 v_16 ls hf (lv_sub hl [2, 1, 0] rfl)
  refine lv_iconst (v := 0) hx hb dX6_wordsOfAll_0 (by decide) ?_
  refine lv_istore_n (lv' := [(1, .int (0 : Int32)), (0, .ref (ad 0))]) hx hb dX6_wordsOfAll_1 rfl hl (by decide) rfl (fun ls hl => ?_)
  refine lv_iconst (v := 0) hx hb dX6_wordsOfAll_2 (by decide) ?_
  refine lv_istore_n (lv' := [(2, .int (0 : Int32)), (1, .int (0 : Int32)), (0, .ref (ad 0))]) hx hb dX6_wordsOfAll_3 rfl hl (by decide) rfl (fun ls hl => ?_)
  exact lp_4 _ (0 : Int32) (0 : Int32) ls hf (lv_sub hl [2, 1, 0] rfl)
def fX6_beds_c99  (y2 : Int32) (G : M2) (J : J2) : Option (Int32 × M2) := some (y2, G)
def fX6_beds_c92 (k_33 : Int32 → Int32 → Int32 → Int32 → M2 → J2 → Option (Int32 × M2)) (y1 : Int32) (y2 : Int32) (y4 : Int32) (z0 : Int32) (G : M2) (J : J2) : Option (Int32 × M2) := letb (y4 + (1 : Int32)) (fun v_21 : Int32 => k_33 y1 y2 z0 v_21 G J)
def fX6_beds_c79 (k_33 : Int32 → Int32 → Int32 → Int32 → M2 → J2 → Option (Int32 × M2)) (y1 : Int32) (y3 : Int32) (y4 : Int32) (y5 : Int32) (z0 : Int32) (G : M2) (J : J2) : Option (Int32 × M2) := (if y5 ≤ y3 then fX6_beds_c92 k_33 y1 z0 y4 y3 G J else fX6_beds_c92 k_33 y1 z0 y4 y5 G J)
def fX6_beds_c33  : Nat → Int32 → Int32 → Int32 → Int32 → M2 → J2 → Option (Int32 × M2)
  | 0, _, _, _, _, _, _ => none
  | n + 1, y1, y2, y3, y4, G, J => (if (3 : Int32) < y4 then fX6_beds_c99  y2 G J else grd (inb (3 : Int32) 75) (letb (st2 G 1 (upd (G 1) (3 : Int32).toNatClampNeg y4)) (fun G_25 : M2 => (fX6_passes y1 G_25 J).bind (fun (G_26 : M2) => (fX6_wordsOfAll G_26 J).bind (fun (r_28 : Int32) => (fX6_moveAll_p3 (0 : Int32) G_26 J).bind (fun (G_30 : M2) => (if r_28 ≤ y3 then fX6_beds_c79 (fX6_beds_c33 n) y1 y3 y4 r_28 y2 G_30 J else fX6_beds_c79 (fX6_beds_c33 n) y1 y3 y4 r_28 y4 G_30 J)))))))
def fX6_beds (x1 : Int32) (G : M2) (J : J2) : Option (Int32 × M2) := (fX6_in x1 (1 : Int32) (100 : Int32)).bind (fun (r_33 : Int32) => (if r_33 = 0 then bind2 (fX6_finds (-1000000001 : Int32) G J) (fun (r_38 : Int32) (G_39 : M2) => some (r_38, G_39)) else (fX6_moveAll_p3 (1 : Int32) G J).bind (fun (G_36 : M2) => fX6_beds_c33  FU x1 (1 : Int32) (-1 : Int32) (1 : Int32) G_36 J)))
def rmX6_beds : Room := { frames := 7, cells := 0, slots := 0, locals := 154 }
theorem hdX6_beds : yX6_beds.cls = yX6_beds.cls ∧ yX6_beds.cls ≠ "java/lang/invoke/MethodHandle" ∧ yX6_beds.cls ≠ "java/lang/invoke/VarHandle" ∧ (parseMethodDescriptor yX6_beds.desc).map (fun d => d.parameters.length) = some 1 := by decide +kernel
set_option maxHeartbeats 4000000 in
set_option maxRecDepth 100000 in
theorem kX6_beds (l : Launch) (g : Gl) (ad : Nat → Nat) (sz : Nat) (G : M2) (J : J2) (x1 : Int32) (r : Int32) (G' : M2)  (hf : fX6_beds x1 G J = some (r, G')) : MetI l yX6_beds (Cond.code yX6_beds cX6_beds 6 (some .int) :: wsL_law) rmX6_beds [.ref (ad 0), .int x1] g (wM g ad G J) sz r (wM g ad G' J) := by
  refine openI (by decide +kernel) (Nat.le_of_ble_eq_true rfl) ?_
  intro p e s m args below meth c A C hE hA hH ls hl
  have hl : lv_has ls 6 [(0, .ref (ad 0)), (1, .int x1)] := hl
  have C : Cx p s m args meth c cX6_beds 6 (some .int) RX6 := C
  obtain ⟨hx, hb, hml, hown, hT, hr, hlk⟩ := id C
  rw [fX6_beds] at hf
  have lp_33 : ∀ (n_33 : Nat) (y1 : Int32) (y2 : Int32) (y3 : Int32) (y4 : Int32) (G : M2) (H : Heap) (locs : List Loc) (ls : Array Slot), fX6_beds_c33  n_33 y1 y2 y3 y4 G J = some (r, G') → Hp g A s H locs (wM g ad G J) → lv_has ls 6 [(0, .ref (ad 0)), (1, .int y1), (2, .int y2), (3, .int y3), (4, .int y4)] → W p l e rmX6_beds s m args below meth c H locs 0 0 (QI g A below args s r (wM g ad G' J)) (F0 m 33 ls []) := by
    intro n_33
    induction n_33 with
    | zero =>
      intro y1 y2 y3 y4 G H locs  ls hf hH hl
      rw [fX6_beds_c33] at hf
      cases hf
    | succ n_33 ih_33 =>
      intro y1 y2 y3 y4 G H locs  ls hf hH hl
      rw [fX6_beds_c33] at hf
      have j_99 : ∀ (y2 : Int32) (G : M2) (H : Heap) (locs : List Loc) (ls : Array Slot), fX6_beds_c99  y2 G J = some (r, G') → Hp g A s H locs (wM g ad G J) → lv_has ls 6 [(2, .int y2)] → W p l e rmX6_beds s m args below meth c H locs 0 0 (QI g A below args s r (wM g ad G' J)) (F0 m 99 ls []) := by
        intro y2 G H locs  ls hf hH hl
        rw [fX6_beds_c99] at hf
        refine lv_iload_n hx hb dX6_beds_99 rfl (lv_at hl 0 rfl) ?_
        have hf := Option.some.inj hf
        obtain ⟨h1, h2⟩ := Prod.mk.inj hf
        subst h1
        subst h2
        exact retI C hH rfl dX6_beds_100
      have j_79 : ∀ (y1 : Int32) (y3 : Int32) (y4 : Int32) (y5 : Int32) (z0 : Int32) (G : M2) (H : Heap) (locs : List Loc) (ls : Array Slot), fX6_beds_c79 (fX6_beds_c33 n_33) y1 y3 y4 y5 z0 G J = some (r, G') → Hp g A s H locs (wM g ad G J) → lv_has ls 6 [(0, .ref (ad 0)), (1, .int y1), (3, .int y3), (4, .int y4), (5, .int y5)] → W p l e rmX6_beds s m args below meth c H locs 0 0 (QI g A below args s r (wM g ad G' J)) (F0 m 79 ls [.int z0]) := by
        intro y1 y3 y4 y5 z0 G H locs  ls hf hH hl
        rw [fX6_beds_c79] at hf
        have j_92 : ∀ (y1 : Int32) (y2 : Int32) (y4 : Int32) (z0 : Int32) (G : M2) (H : Heap) (locs : List Loc) (ls : Array Slot), fX6_beds_c92 (fX6_beds_c33 n_33) y1 y2 y4 z0 G J = some (r, G') → Hp g A s H locs (wM g ad G J) → lv_has ls 6 [(0, .ref (ad 0)), (1, .int y1), (2, .int y2), (4, .int y4)] → W p l e rmX6_beds s m args below meth c H locs 0 0 (QI g A below args s r (wM g ad G' J)) (F0 m 92 ls [.int z0]) := by
          intro y1 y2 y4 z0 G H locs  ls hf hH hl
          rw [fX6_beds_c92] at hf
          refine lv_istore_n (lv' := [(3, .int z0), (0, .ref (ad 0)), (1, .int y1), (2, .int y2), (4, .int y4)]) hx hb dX6_beds_92 rfl hl (by decide) rfl (fun ls hl => ?_)
          obtain ⟨v_21, ev_21⟩ : ∃ z : Int32, z = y4 + (1 : Int32) := ⟨_, rfl⟩
          have hf := letb_at hf v_21 ev_21
          refine lv_iinc (v := v_21) (lv' := [(4, .int v_21), (3, .int z0), (0, .ref (ad 0)), (1, .int y1), (2, .int y2)]) hx hb dX6_beds_93 hl (k := 4) rfl (by rw [ev_21]; rfl) (by decide) rfl (fun ls hl => ?_)
          refine lv_goto (tgt := 33) hx hb dX6_beds_96 (by decide) ?_
          exact ih_33 y1 y2 z0 v_21 G _ _ ls hf hH (lv_sub hl [2, 3, 4, 1, 0] rfl)
        refine lv_istore_n (lv' := [(2, .int z0), (0, .ref (ad 0)), (1, .int y1), (3, .int y3), (4, .int y4), (5, .int y5)]) hx hb dX6_beds_79 rfl hl (by decide) rfl (fun ls hl => ?_)
        refine lv_iload hx hb dX6_beds_80 (lv_at hl 5 rfl) ?_
        refine lv_iload_n hx hb dX6_beds_82 rfl (lv_at hl 3 rfl) ?_
        refine lv_icmp_le (tgt := 91) hx hb dX6_beds_83 (by decide) (fun c_22 => ?_) (fun c_22 => ?_)
        · have hf := if_p hf c_22
          refine lv_iload_n hx hb dX6_beds_91 rfl (lv_at hl 3 rfl) ?_
          exact j_92 y1 z0 y4 y3 G _ _ ls hf hH (lv_sub hl [1, 2, 0, 4] rfl)
        · have hf := if_n hf c_22
          refine lv_iload hx hb dX6_beds_86 (lv_at hl 5 rfl) ?_
          refine lv_goto (tgt := 92) hx hb dX6_beds_88 (by decide) ?_
          exact j_92 y1 z0 y4 y5 G _ _ ls hf hH (lv_sub hl [1, 2, 0, 4] rfl)
      refine lv_iload hx hb dX6_beds_33 (lv_at hl 4 rfl) ?_
      refine lv_iconst (v := 3) hx hb dX6_beds_35 (by decide) ?_
      refine lv_icmp_gt (tgt := 99) hx hb dX6_beds_36 (by decide) (fun c_23 => ?_) (fun c_23 => ?_)
      · have hf := if_p hf c_23
        exact j_99 y2 G _ _ ls hf hH (lv_sub hl [2] rfl)
      · have hf := if_n hf c_23
        refine lv_aload_n hx hb dX6_beds_39 rfl (lv_at hl 0 rfl) ?_
        refine gf_RX6_7 C hE hH 0 rfl rfl dX6_beds_40 ?_
        refine lv_iconst (v := 3) hx hb dX6_beds_43 (by decide) ?_
        refine lv_iload hx hb dX6_beds_44 (lv_at hl 4 rfl) ?_
        obtain ⟨hi_24, hf⟩ := grd_inv hf
        refine xiast C hE hH 1 rfl hi_24 (fun q : M2 => wM g ad q J) (st2 G 1 (upd (G 1) (3 : Int32).toNatClampNeg y4)) rfl dX6_beds_46 (fun G_25 eG_25 H locs hH => ?_)
        have hf := letb_at hf G_25 eG_25
        refine lv_aload_n hx hb dX6_beds_47 rfl (lv_at hl 0 rfl) ?_
        refine lv_iload_n hx hb dX6_beds_48 rfl (lv_at hl 1 rfl) ?_
        obtain ⟨G_26, hc_27, hf⟩ := bind_inv hf
        refine aftV (runV C hE hA hH [0, 1, 2, 3, 4, 5, 6, 7, 8, 9, 10, 11] nC_M_M_0_11 (sC_M_M_0_11 g ad G_25 J) (kX6_passes l g ad _ G_25 J y1 G_26  hc_27) tw_16_9 tw_16_10 tw_16_11 tw_1_5 tw_16_12 hdX6_passes 0 rfl rfl rfl rfl ⟨Nat.le_of_ble_eq_true rfl, Nat.le_of_ble_eq_true rfl⟩ rfl hl.1 (rest := []) rfl (Nat.le_of_ble_eq_true rfl) dX6_beds_49 ⟨Nat.zero_le _, Nat.zero_le _⟩) hA hH [0, 1, 2, 3, 4, 5, 6, 7, 8, 9, 10, 11] [] (sC_M_M_0_11 g ad G_25 J) (sR_M_M_0_11 g ad G_25 J) nR_M_M_0_11 dj_M_M_0_11 [0, 1, 2, 3, 4, 5, 6, 7, 8, 9, 10, 11] nP_M_M_0_11 (sP_M_M_0_11 g ad G_25 J G_26 J) (fun H locs hH => ?_)
        refine lv_aload_n hx hb dX6_beds_52 rfl (lv_at hl 0 rfl) ?_
        obtain ⟨r_28, hc_29, hf⟩ := bind_inv hf
        refine aftPI (runV C hE hA hH [0, 1, 2, 3, 4, 5, 6, 7, 8, 9, 10, 11] nC_M_M_0_11 (sC_M_M_0_11 g ad G_26 J) (kX6_wordsOfAll l g ad _ G_26 J r_28  hc_29) tw_24_9 tw_24_10 tw_24_11 tw_1_5 tw_24_12 hdX6_wordsOfAll 0 rfl rfl rfl rfl ⟨Nat.le_of_ble_eq_true rfl, Nat.le_of_ble_eq_true rfl⟩ rfl hl.1 (rest := []) rfl (Nat.le_of_ble_eq_true rfl) dX6_beds_53 ⟨Nat.zero_le _, Nat.zero_le _⟩) ?_
        refine lv_istore (lv' := [(5, .int r_28), (0, .ref (ad 0)), (1, .int y1), (2, .int y2), (3, .int y3), (4, .int y4)]) hx hb dX6_beds_56 hl (by decide) rfl (fun ls hl => ?_)
        refine lv_aload_n hx hb dX6_beds_58 rfl (lv_at hl 1 rfl) ?_
        refine lv_iconst (v := 0) hx hb dX6_beds_59 (by decide) ?_
        refine lv_aload_n hx hb dX6_beds_60 rfl (lv_at hl 1 rfl) ?_
        refine gf_RX6_16 C hE hH 0 rfl rfl dX6_beds_61 ?_
        obtain ⟨G_30, hc_31, hf⟩ := bind_inv hf
        refine aftV (runV C hE hA hH [0, 1, 2, 3, 4, 5, 6, 7, 8, 9, 10, 11] nC_M_M_0_11 (sC_M_M_0_11 g ad G_26 J) (kX6_moveAll_p3 l g ad _ G_26 J (0 : Int32) G_30  hc_31) tw_19_6 tw_19_7 tw_19_8 tw_1_5 tw_19_9 hdX6_moveAll_p3 0 rfl rfl rfl rfl ⟨Nat.le_of_ble_eq_true rfl, Nat.le_of_ble_eq_true rfl⟩ rfl hl.1 (rest := []) rfl (Nat.le_of_ble_eq_true rfl) dX6_beds_64 ⟨Nat.zero_le _, Nat.zero_le _⟩) hA hH [0, 1, 2, 3, 4, 5, 6, 7, 8, 9, 10, 11] [] (sC_M_M_0_11 g ad G_26 J) (sR_M_M_0_11 g ad G_26 J) nR_M_M_0_11 dj_M_M_0_11 [0, 1, 2, 3, 4, 5, 6, 7, 8, 9, 10, 11] nP_M_M_0_11 (sP_M_M_0_11 g ad G_26 J G_30 J) (fun H locs hH => ?_)
        refine lv_iload hx hb dX6_beds_67 (lv_at hl 0 rfl) ?_
        refine lv_iload_n hx hb dX6_beds_69 rfl (lv_at hl 4 rfl) ?_
        refine lv_icmp_le (tgt := 78) hx hb dX6_beds_70 (by decide) (fun c_32 => ?_) (fun c_32 => ?_)
        · have hf := if_p hf c_32
          refine lv_iload_n hx hb dX6_beds_78 rfl (lv_at hl 3 rfl) ?_
          exact j_79 y1 y3 y4 r_28 y2 G_30 _ _ ls hf hH (lv_sub hl [1, 2, 4, 5, 0] rfl)
        · have hf := if_n hf c_32
          refine lv_iload hx hb dX6_beds_73 (lv_at hl 5 rfl) ?_
          refine lv_goto (tgt := 79) hx hb dX6_beds_75 (by decide) ?_
          exact j_79 y1 y3 y4 r_28 y4 G_30 _ _ ls hf hH (lv_sub hl [1, 2, 4, 5, 0] rfl)
  refine lv_iload_n hx hb dX6_beds_0 rfl (lv_at hl 1 rfl) ?_
  refine lv_iconst (v := 1) hx hb dX6_beds_1 (by decide) ?_
  refine lv_bipush (v := 100) hx hb dX6_beds_2 (by decide) ?_
  obtain ⟨r_33, hc_34, hf⟩ := bind_inv hf
  refine aftPI (runS C hE hA hH [] rfl rfl (kX6_in l g ad _ x1 (1 : Int32) (100 : Int32) r_33  hc_34) tw_5_2 tw_5_3 tw_1_5 tw_5_4 hdX6_in rfl rfl ⟨Nat.le_of_ble_eq_true rfl, Nat.le_of_ble_eq_true rfl⟩ rfl hl.1 (rest := []) rfl (Nat.le_of_ble_eq_true rfl) dX6_beds_4 ⟨Nat.zero_le _, Nat.zero_le _⟩) ?_
  refine lv_if_ne (tgt := 17) hx hb dX6_beds_7 (by decide) (fun c_35 => ?_) (fun c_35 => ?_)
  · have hf := if_n hf c_35
    refine lv_iconst (v := 1) hx hb dX6_beds_17 (by decide) ?_
    refine lv_istore_n (lv' := [(2, .int (1 : Int32)), (0, .ref (ad 0)), (1, .int x1)]) hx hb dX6_beds_18 rfl hl (by decide) rfl (fun ls hl => ?_)
    refine lv_iconst (v := (-1)) hx hb dX6_beds_19 (by decide) ?_
    refine lv_istore_n (lv' := [(3, .int (-1 : Int32)), (2, .int (1 : Int32)), (0, .ref (ad 0)), (1, .int x1)]) hx hb dX6_beds_20 rfl hl (by decide) rfl (fun ls hl => ?_)
    refine lv_aload_n hx hb dX6_beds_21 rfl (lv_at hl 2 rfl) ?_
    refine lv_iconst (v := 1) hx hb dX6_beds_22 (by decide) ?_
    refine lv_aload_n hx hb dX6_beds_23 rfl (lv_at hl 2 rfl) ?_
    refine gf_RX6_16 C hE hH 0 rfl rfl dX6_beds_24 ?_
    obtain ⟨G_36, hc_37, hf⟩ := bind_inv hf
    refine aftV (runV C hE hA hH [0, 1, 2, 3, 4, 5, 6, 7, 8, 9, 10, 11] nC_M_M_0_11 (sC_M_M_0_11 g ad G J) (kX6_moveAll_p3 l g ad _ G J (1 : Int32) G_36  hc_37) tw_19_6 tw_19_7 tw_19_8 tw_1_5 tw_19_9 hdX6_moveAll_p3 0 rfl rfl rfl rfl ⟨Nat.le_of_ble_eq_true rfl, Nat.le_of_ble_eq_true rfl⟩ rfl hl.1 (rest := []) rfl (Nat.le_of_ble_eq_true rfl) dX6_beds_27 ⟨Nat.zero_le _, Nat.zero_le _⟩) hA hH [0, 1, 2, 3, 4, 5, 6, 7, 8, 9, 10, 11] [] (sC_M_M_0_11 g ad G J) (sR_M_M_0_11 g ad G J) nR_M_M_0_11 dj_M_M_0_11 [0, 1, 2, 3, 4, 5, 6, 7, 8, 9, 10, 11] nP_M_M_0_11 (sP_M_M_0_11 g ad G J G_36 J) (fun H locs hH => ?_)
    refine lv_iconst (v := 1) hx hb dX6_beds_30 (by decide) ?_
    refine lv_istore (lv' := [(4, .int (1 : Int32)), (3, .int (-1 : Int32)), (2, .int (1 : Int32)), (0, .ref (ad 0)), (1, .int x1)]) hx hb dX6_beds_31 hl (by decide) rfl (fun ls hl => ?_)
    exact lp_33 _ x1 (1 : Int32) (-1 : Int32) (1 : Int32) G_36 _ _ ls hf hH (lv_sub hl [3, 4, 2, 1, 0] rfl)
  · have hf := if_p hf c_35
    refine lv_aload_n hx hb dX6_beds_10 rfl (lv_at hl 0 rfl) ?_
    refine lv_ldc hx hb hown (hT _ tw_5_1) dX6_beds_11 ?_
    obtain ⟨r_38, G_39, hc_40, hf⟩ := bind2_inv hf
    refine aftI (runV C hE hA hH [0, 1, 2, 3, 4, 5, 6, 7, 8, 9, 10, 11] nC_M_M_0_11 (sC_M_M_0_11 g ad G J) (kX6_finds l g ad _ G J (-1000000001 : Int32) r_38 G_39  hc_40) tw_5_9 tw_5_10 tw_5_11 tw_1_5 tw_5_12 hdX6_finds 0 rfl rfl rfl rfl ⟨Nat.le_of_ble_eq_true rfl, Nat.le_of_ble_eq_true rfl⟩ rfl hl.1 (rest := []) rfl (Nat.le_of_ble_eq_true rfl) dX6_beds_13 ⟨Nat.zero_le _, Nat.zero_le _⟩) hA hH [0, 1, 2, 3, 4, 5, 6, 7, 8, 9, 10, 11] [] (sC_M_M_0_11 g ad G J) (sR_M_M_0_11 g ad G J) nR_M_M_0_11 dj_M_M_0_11 [0, 1, 2, 3, 4, 5, 6, 7, 8, 9, 10, 11] nP_M_M_0_11 (sP_M_M_0_11 g ad G J G_39 J) (fun H locs hH => ?_)
    have hf := Option.some.inj hf
    obtain ⟨h1, h2⟩ := Prod.mk.inj hf
    subst h1
    subst h2
    exact retI C hH rfl dX6_beds_16
def fX6_storm_c93  (z0 : Int32) (G : M2) (J : J2) : Option (Int32 × M2) := some (z0, G)
def fX6_storm_c79  (y1 : Int32) (G : M2) (J : J2) : Option (Int32 × M2) := (if 0 ≤ y1 then fX6_storm_c93  y1 G J else bind2 (fX6_finds (-1000000004 : Int32) G J) (fun (r_21 : Int32) (G_22 : M2) => fX6_storm_c93  r_21 G_22 J))
def fX6_storm_c72 (k_11 : Int32 → Int32 → Int32 → M2 → J2 → Option (Int32 × M2)) (y1 : Int32) (y3 : Int32) (z0 : Int32) (G : M2) (J : J2) : Option (Int32 × M2) := letb (y3 + (1 : Int32)) (fun v_24 : Int32 => k_11 y1 z0 v_24 G J)
def fX6_storm_c59 (k_11 : Int32 → Int32 → Int32 → M2 → J2 → Option (Int32 × M2)) (y2 : Int32) (y3 : Int32) (y5 : Int32) (z0 : Int32) (G : M2) (J : J2) : Option (Int32 × M2) := (if y2 ≤ y5 then fX6_storm_c72 k_11 z0 y3 y2 G J else fX6_storm_c72 k_11 z0 y3 y5 G J)
def fX6_storm_c11  : Nat → Int32 → Int32 → Int32 → M2 → J2 → Option (Int32 × M2)
  | 0, _, _, _, _, _ => none
  | n + 1, y1, y2, y3, G, J => (if (28 : Int32) ≤ y3 then fX6_storm_c79  y1 G J else bind2 (fX6_becomes ((7 : Int32) + y3) (12 : Int32) G J) (fun (r_27 : Int32) (G_28 : M2) => bind2 (fX6_nextRelief (100 : Int32) G_28 J) (fun (r_30 : Int32) (G_31 : M2) => grd (inb ((7 : Int32) + y3) 75) (letb (st2 G_31 1 (upd (G_31 1) ((7 : Int32) + y3).toNatClampNeg r_27)) (fun G_34 : M2 => (if y2 ≤ r_30 then fX6_storm_c59 (fX6_storm_c11 n) y2 y3 r_30 y1 G_34 J else fX6_storm_c59 (fX6_storm_c11 n) y2 y3 r_30 y3 G_34 J))))))
def fX6_storm (G : M2) (J : J2) : Option (Int32 × M2) := bind2 (fX6_nextRelief (100 : Int32) G J) (fun (r_36 : Int32) (G_37 : M2) => fX6_storm_c11  FU (-1 : Int32) r_36 (0 : Int32) G_37 J)
def rmX6_storm : Room := { frames := 7, cells := 0, slots := 0, locals := 154 }
theorem hdX6_storm : yX6_storm.cls = yX6_storm.cls ∧ yX6_storm.cls ≠ "java/lang/invoke/MethodHandle" ∧ yX6_storm.cls ≠ "java/lang/invoke/VarHandle" ∧ (parseMethodDescriptor yX6_storm.desc).map (fun d => d.parameters.length) = some 0 := by decide +kernel
set_option maxHeartbeats 4000000 in
set_option maxRecDepth 100000 in
theorem kX6_storm (l : Launch) (g : Gl) (ad : Nat → Nat) (sz : Nat) (G : M2) (J : J2)  (r : Int32) (G' : M2)  (hf : fX6_storm G J = some (r, G')) : MetI l yX6_storm (Cond.code yX6_storm cX6_storm 6 (some .int) :: wsL_law) rmX6_storm [.ref (ad 0)] g (wM g ad G J) sz r (wM g ad G' J) := by
  refine openI (by decide +kernel) (Nat.le_of_ble_eq_true rfl) ?_
  intro p e s m args below meth c A C hE hA hH ls hl
  have hl : lv_has ls 6 [(0, .ref (ad 0))] := hl
  have C : Cx p s m args meth c cX6_storm 6 (some .int) RX6 := C
  obtain ⟨hx, hb, hml, hown, hT, hr, hlk⟩ := id C
  rw [fX6_storm] at hf
  have lp_11 : ∀ (n_11 : Nat) (y1 : Int32) (y2 : Int32) (y3 : Int32) (G : M2) (H : Heap) (locs : List Loc) (ls : Array Slot), fX6_storm_c11  n_11 y1 y2 y3 G J = some (r, G') → Hp g A s H locs (wM g ad G J) → lv_has ls 6 [(0, .ref (ad 0)), (1, .int y1), (2, .int y2), (3, .int y3)] → W p l e rmX6_storm s m args below meth c H locs 0 0 (QI g A below args s r (wM g ad G' J)) (F0 m 11 ls []) := by
    intro n_11
    induction n_11 with
    | zero =>
      intro y1 y2 y3 G H locs  ls hf hH hl
      rw [fX6_storm_c11] at hf
      cases hf
    | succ n_11 ih_11 =>
      intro y1 y2 y3 G H locs  ls hf hH hl
      rw [fX6_storm_c11] at hf
      have j_79 : ∀ (y1 : Int32) (G : M2) (H : Heap) (locs : List Loc) (ls : Array Slot), fX6_storm_c79  y1 G J = some (r, G') → Hp g A s H locs (wM g ad G J) → lv_has ls 6 [(0, .ref (ad 0)), (1, .int y1)] → W p l e rmX6_storm s m args below meth c H locs 0 0 (QI g A below args s r (wM g ad G' J)) (F0 m 79 ls []) := by
        intro y1 G H locs  ls hf hH hl
        rw [fX6_storm_c79] at hf
        have j_93 : ∀ (z0 : Int32) (G : M2) (H : Heap) (locs : List Loc) (ls : Array Slot), fX6_storm_c93  z0 G J = some (r, G') → Hp g A s H locs (wM g ad G J) → lv_has ls 6 [] → W p l e rmX6_storm s m args below meth c H locs 0 0 (QI g A below args s r (wM g ad G' J)) (F0 m 93 ls [.int z0]) := by
          intro z0 G H locs  ls hf hH hl
          rw [fX6_storm_c93] at hf
          have hf := Option.some.inj hf
          obtain ⟨h1, h2⟩ := Prod.mk.inj hf
          subst h1
          subst h2
          exact retI C hH rfl dX6_storm_93
        refine lv_iload_n hx hb dX6_storm_79 rfl (lv_at hl 1 rfl) ?_
        refine lv_if_ge (tgt := 92) hx hb dX6_storm_80 (by decide) (fun c_20 => ?_) (fun c_20 => ?_)
        · have hf := if_p hf c_20
          refine lv_iload_n hx hb dX6_storm_92 rfl (lv_at hl 1 rfl) ?_
          exact j_93 y1 G _ _ ls hf hH (lv_sub hl [] rfl)
        · have hf := if_n hf c_20
          refine lv_aload_n hx hb dX6_storm_83 rfl (lv_at hl 0 rfl) ?_
          refine lv_ldc hx hb hown (hT _ tw_20_8) dX6_storm_84 ?_
          obtain ⟨r_21, G_22, hc_23, hf⟩ := bind2_inv hf
          refine aftI (runV C hE hA hH [0, 1, 2, 3, 4, 5, 6, 7, 8, 9, 10, 11] nC_M_M_0_11 (sC_M_M_0_11 g ad G J) (kX6_finds l g ad _ G J (-1000000004 : Int32) r_21 G_22  hc_23) tw_5_9 tw_5_10 tw_5_11 tw_1_5 tw_5_12 hdX6_finds 0 rfl rfl rfl rfl ⟨Nat.le_of_ble_eq_true rfl, Nat.le_of_ble_eq_true rfl⟩ rfl hl.1 (rest := []) rfl (Nat.le_of_ble_eq_true rfl) dX6_storm_86 ⟨Nat.zero_le _, Nat.zero_le _⟩) hA hH [0, 1, 2, 3, 4, 5, 6, 7, 8, 9, 10, 11] [] (sC_M_M_0_11 g ad G J) (sR_M_M_0_11 g ad G J) nR_M_M_0_11 dj_M_M_0_11 [0, 1, 2, 3, 4, 5, 6, 7, 8, 9, 10, 11] nP_M_M_0_11 (sP_M_M_0_11 g ad G J G_22 J) (fun H locs hH => ?_)
          refine lv_goto (tgt := 93) hx hb dX6_storm_89 (by decide) ?_
          exact j_93 r_21 G_22 _ _ ls hf hH (lv_sub hl [] rfl)
      have j_59 : ∀ (y2 : Int32) (y3 : Int32) (y5 : Int32) (z0 : Int32) (G : M2) (H : Heap) (locs : List Loc) (ls : Array Slot), fX6_storm_c59 (fX6_storm_c11 n_11) y2 y3 y5 z0 G J = some (r, G') → Hp g A s H locs (wM g ad G J) → lv_has ls 6 [(0, .ref (ad 0)), (2, .int y2), (3, .int y3), (5, .int y5)] → W p l e rmX6_storm s m args below meth c H locs 0 0 (QI g A below args s r (wM g ad G' J)) (F0 m 59 ls [.int z0]) := by
        intro y2 y3 y5 z0 G H locs  ls hf hH hl
        rw [fX6_storm_c59] at hf
        have j_72 : ∀ (y1 : Int32) (y3 : Int32) (z0 : Int32) (G : M2) (H : Heap) (locs : List Loc) (ls : Array Slot), fX6_storm_c72 (fX6_storm_c11 n_11) y1 y3 z0 G J = some (r, G') → Hp g A s H locs (wM g ad G J) → lv_has ls 6 [(0, .ref (ad 0)), (1, .int y1), (3, .int y3)] → W p l e rmX6_storm s m args below meth c H locs 0 0 (QI g A below args s r (wM g ad G' J)) (F0 m 72 ls [.int z0]) := by
          intro y1 y3 z0 G H locs  ls hf hH hl
          rw [fX6_storm_c72] at hf
          refine lv_istore_n (lv' := [(2, .int z0), (0, .ref (ad 0)), (1, .int y1), (3, .int y3)]) hx hb dX6_storm_72 rfl hl (by decide) rfl (fun ls hl => ?_)
          obtain ⟨v_24, ev_24⟩ : ∃ z : Int32, z = y3 + (1 : Int32) := ⟨_, rfl⟩
          have hf := letb_at hf v_24 ev_24
          refine lv_iinc (v := v_24) (lv' := [(3, .int v_24), (2, .int z0), (0, .ref (ad 0)), (1, .int y1)]) hx hb dX6_storm_73 hl (k := 3) rfl (by rw [ev_24]; rfl) (by decide) rfl (fun ls hl => ?_)
          refine lv_goto (tgt := 11) hx hb dX6_storm_76 (by decide) ?_
          exact ih_11 y1 z0 v_24 G _ _ ls hf hH (lv_sub hl [2, 3, 1, 0] rfl)
        refine lv_istore_n (lv' := [(1, .int z0), (0, .ref (ad 0)), (2, .int y2), (3, .int y3), (5, .int y5)]) hx hb dX6_storm_59 rfl hl (by decide) rfl (fun ls hl => ?_)
        refine lv_iload hx hb dX6_storm_60 (lv_at hl 4 rfl) ?_
        refine lv_iload_n hx hb dX6_storm_62 rfl (lv_at hl 2 rfl) ?_
        refine lv_icmp_ge (tgt := 71) hx hb dX6_storm_63 (by decide) (fun c_25 => ?_) (fun c_25 => ?_)
        · have hf := if_p hf c_25
          refine lv_iload_n hx hb dX6_storm_71 rfl (lv_at hl 2 rfl) ?_
          exact j_72 z0 y3 y2 G _ _ ls hf hH (lv_sub hl [1, 0, 3] rfl)
        · have hf := if_n hf c_25
          refine lv_iload hx hb dX6_storm_66 (lv_at hl 4 rfl) ?_
          refine lv_goto (tgt := 72) hx hb dX6_storm_68 (by decide) ?_
          exact j_72 z0 y3 y5 G _ _ ls hf hH (lv_sub hl [1, 0, 3] rfl)
      refine lv_iload_n hx hb dX6_storm_11 rfl (lv_at hl 3 rfl) ?_
      refine lv_bipush (v := 28) hx hb dX6_storm_12 (by decide) ?_
      refine lv_icmp_ge (tgt := 79) hx hb dX6_storm_14 (by decide) (fun c_26 => ?_) (fun c_26 => ?_)
      · have hf := if_p hf c_26
        exact j_79 y1 G _ _ ls hf hH (lv_sub hl [0, 1] rfl)
      · have hf := if_n hf c_26
        refine lv_aload_n hx hb dX6_storm_17 rfl (lv_at hl 0 rfl) ?_
        refine lv_bipush (v := 7) hx hb dX6_storm_18 (by decide) ?_
        refine lv_iload_n hx hb dX6_storm_20 rfl (lv_at hl 3 rfl) ?_
        refine lv_iadd hx hb dX6_storm_21 ?_
        refine lv_bipush (v := 12) hx hb dX6_storm_22 (by decide) ?_
        obtain ⟨r_27, G_28, hc_29, hf⟩ := bind2_inv hf
        refine aftI (runV C hE hA hH [0, 1, 2, 3, 4, 5, 6, 7, 8, 9, 10, 11] nC_M_M_0_11 (sC_M_M_0_11 g ad G J) (kX6_becomes l g ad _ G J ((7 : Int32) + y3) (12 : Int32) r_27 G_28  hc_29) tw_5_5 tw_5_6 tw_5_7 tw_1_5 tw_5_8 hdX6_becomes 0 rfl rfl rfl rfl ⟨Nat.le_of_ble_eq_true rfl, Nat.le_of_ble_eq_true rfl⟩ rfl hl.1 (rest := []) rfl (Nat.le_of_ble_eq_true rfl) dX6_storm_24 ⟨Nat.zero_le _, Nat.zero_le _⟩) hA hH [0, 1, 2, 3, 4, 5, 6, 7, 8, 9, 10, 11] [] (sC_M_M_0_11 g ad G J) (sR_M_M_0_11 g ad G J) nR_M_M_0_11 dj_M_M_0_11 [0, 1, 2, 3, 4, 5, 6, 7, 8, 9, 10, 11] nP_M_M_0_11 (sP_M_M_0_11 g ad G J G_28 J) (fun H locs hH => ?_)
        refine lv_istore (lv' := [(4, .int r_27), (0, .ref (ad 0)), (1, .int y1), (2, .int y2), (3, .int y3)]) hx hb dX6_storm_27 hl (by decide) rfl (fun ls hl => ?_)
        refine lv_aload_n hx hb dX6_storm_29 rfl (lv_at hl 1 rfl) ?_
        refine lv_bipush (v := 100) hx hb dX6_storm_30 (by decide) ?_
        obtain ⟨r_30, G_31, hc_32, hf⟩ := bind2_inv hf
        refine aftI (runV C hE hA hH [0, 1, 2, 3, 4, 5, 6, 7, 8, 9, 10, 11] nC_M_M_0_11 (sC_M_M_0_11 g ad G_28 J) (kX6_nextRelief l g ad _ G_28 J (100 : Int32) r_30 G_31  hc_32) tw_20_9 tw_20_10 tw_20_11 tw_1_5 tw_20_12 hdX6_nextRelief 0 rfl rfl rfl rfl ⟨Nat.le_of_ble_eq_true rfl, Nat.le_of_ble_eq_true rfl⟩ rfl hl.1 (rest := []) rfl (Nat.le_of_ble_eq_true rfl) dX6_storm_32 ⟨Nat.zero_le _, Nat.zero_le _⟩) hA hH [0, 1, 2, 3, 4, 5, 6, 7, 8, 9, 10, 11] [] (sC_M_M_0_11 g ad G_28 J) (sR_M_M_0_11 g ad G_28 J) nR_M_M_0_11 dj_M_M_0_11 [0, 1, 2, 3, 4, 5, 6, 7, 8, 9, 10, 11] nP_M_M_0_11 (sP_M_M_0_11 g ad G_28 J G_31 J) (fun H locs hH => ?_)
        refine lv_istore (lv' := [(5, .int r_30), (4, .int r_27), (0, .ref (ad 0)), (1, .int y1), (2, .int y2), (3, .int y3)]) hx hb dX6_storm_35 hl (by decide) rfl (fun ls hl => ?_)
        refine lv_aload_n hx hb dX6_storm_37 rfl (lv_at hl 2 rfl) ?_
        refine gf_RX6_7 C hE hH 0 rfl rfl dX6_storm_38 ?_
        refine lv_bipush (v := 7) hx hb dX6_storm_41 (by decide) ?_
        refine lv_iload_n hx hb dX6_storm_43 rfl (lv_at hl 5 rfl) ?_
        refine lv_iadd hx hb dX6_storm_44 ?_
        refine lv_iload hx hb dX6_storm_45 (lv_at hl 1 rfl) ?_
        obtain ⟨hi_33, hf⟩ := grd_inv hf
        refine xiast C hE hH 1 rfl hi_33 (fun q : M2 => wM g ad q J) (st2 G_31 1 (upd (G_31 1) ((7 : Int32) + y3).toNatClampNeg r_27)) rfl dX6_storm_47 (fun G_34 eG_34 H locs hH => ?_)
        have hf := letb_at hf G_34 eG_34
        refine lv_iload hx hb dX6_storm_48 (lv_at hl 0 rfl) ?_
        refine lv_iload_n hx hb dX6_storm_50 rfl (lv_at hl 4 rfl) ?_
        refine lv_icmp_ge (tgt := 58) hx hb dX6_storm_51 (by decide) (fun c_35 => ?_) (fun c_35 => ?_)
        · have hf := if_p hf c_35
          refine lv_iload_n hx hb dX6_storm_58 rfl (lv_at hl 3 rfl) ?_
          exact j_59 y2 y3 r_30 y1 G_34 _ _ ls hf hH (lv_sub hl [2, 4, 5, 0] rfl)
        · have hf := if_n hf c_35
          refine lv_iload_n hx hb dX6_storm_54 rfl (lv_at hl 5 rfl) ?_
          refine lv_goto (tgt := 59) hx hb dX6_storm_55 (by decide) ?_
          exact j_59 y2 y3 r_30 y3 G_34 _ _ ls hf hH (lv_sub hl [2, 4, 5, 0] rfl)
  refine lv_iconst (v := (-1)) hx hb dX6_storm_0 (by decide) ?_
  refine lv_istore_n (lv' := [(1, .int (-1 : Int32)), (0, .ref (ad 0))]) hx hb dX6_storm_1 rfl hl (by decide) rfl (fun ls hl => ?_)
  refine lv_aload_n hx hb dX6_storm_2 rfl (lv_at hl 1 rfl) ?_
  refine lv_bipush (v := 100) hx hb dX6_storm_3 (by decide) ?_
  obtain ⟨r_36, G_37, hc_38, hf⟩ := bind2_inv hf
  refine aftI (runV C hE hA hH [0, 1, 2, 3, 4, 5, 6, 7, 8, 9, 10, 11] nC_M_M_0_11 (sC_M_M_0_11 g ad G J) (kX6_nextRelief l g ad _ G J (100 : Int32) r_36 G_37  hc_38) tw_20_9 tw_20_10 tw_20_11 tw_1_5 tw_20_12 hdX6_nextRelief 0 rfl rfl rfl rfl ⟨Nat.le_of_ble_eq_true rfl, Nat.le_of_ble_eq_true rfl⟩ rfl hl.1 (rest := []) rfl (Nat.le_of_ble_eq_true rfl) dX6_storm_5 ⟨Nat.zero_le _, Nat.zero_le _⟩) hA hH [0, 1, 2, 3, 4, 5, 6, 7, 8, 9, 10, 11] [] (sC_M_M_0_11 g ad G J) (sR_M_M_0_11 g ad G J) nR_M_M_0_11 dj_M_M_0_11 [0, 1, 2, 3, 4, 5, 6, 7, 8, 9, 10, 11] nP_M_M_0_11 (sP_M_M_0_11 g ad G J G_37 J) (fun H locs hH => ?_)
  refine lv_istore_n (lv' := [(2, .int r_36), (1, .int (-1 : Int32)), (0, .ref (ad 0))]) hx hb dX6_storm_8 rfl hl (by decide) rfl (fun ls hl => ?_)
  refine lv_iconst (v := 0) hx hb dX6_storm_9 (by decide) ?_
  refine lv_istore_n (lv' := [(3, .int (0 : Int32)), (2, .int r_36), (1, .int (-1 : Int32)), (0, .ref (ad 0))]) hx hb dX6_storm_10 rfl hl (by decide) rfl (fun ls hl => ?_)
  exact lp_11 _ (-1 : Int32) r_36 (0 : Int32) G_37 _ _ ls hf hH (lv_sub hl [3, 2, 1, 0] rfl)
def fX6_change_c148  (z0 : Int32) (G : M2) (J : J2) : Option (Int32 × M2) := some (z0, G)
def fX6_change_c134  (y2 : Int32) (G : M2) (J : J2) : Option (Int32 × M2) := (if 0 ≤ y2 then fX6_change_c148  y2 G J else bind2 (fX6_finds (-1000000004 : Int32) G J) (fun (r_36 : Int32) (G_37 : M2) => fX6_change_c148  r_36 G_37 J))
def fX6_change_c127 (k_52 : Int32 → Int32 → Int32 → Int32 → M2 → J2 → Option (Int32 × M2)) (y1 : Int32) (y2 : Int32) (y4 : Int32) (z0 : Int32) (G : M2) (J : J2) : Option (Int32 × M2) := letb (y4 + (1 : Int32)) (fun v_39 : Int32 => k_52 y1 y2 z0 v_39 G J)
def fX6_change_c114 (k_52 : Int32 → Int32 → Int32 → Int32 → M2 → J2 → Option (Int32 × M2)) (y1 : Int32) (y3 : Int32) (y4 : Int32) (y5 : Int32) (z0 : Int32) (G : M2) (J : J2) : Option (Int32 × M2) := (if y5 ≤ y3 then fX6_change_c127 k_52 y1 z0 y4 y3 G J else fX6_change_c127 k_52 y1 z0 y4 y5 G J)
def fX6_change_c52  : Nat → Int32 → Int32 → Int32 → Int32 → M2 → J2 → Option (Int32 × M2)
  | 0, _, _, _, _, _, _ => none
  | n + 1, y1, y2, y3, y4, G, J => grd (inb (6 : Int32) 75) ((if (G 1 (6 : Int32).toNatClampNeg) ≤ y4 then fX6_change_c134  y2 G J else (fX6_its y4 (1 : Int32) G J).bind (fun (r_43 : Int32) => bind2 (fX6_turnsOn y4 ((1 : Int32) - r_43) G J) (fun (r_45 : Int32) (G_46 : M2) => (fX6_passes y1 G_46 J).bind (fun (G_48 : M2) => grd (inb (2 : Int32) 75) (letb (G_48 1 (2 : Int32).toNatClampNeg) (fun v_51 : Int32 => (fX6_moveAll_p3 (0 : Int32) G_48 J).bind (fun (G_52 : M2) => (if v_51 ≤ y3 then fX6_change_c114 (fX6_change_c52 n) y1 y3 y4 v_51 y2 G_52 J else fX6_change_c114 (fX6_change_c52 n) y1 y3 y4 v_51 y4 G_52 J)))))))))
def fX6_change (x1 : Int32) (G : M2) (J : J2) : Option (Int32 × M2) := (fX6_in x1 (1 : Int32) (60 : Int32)).bind (fun (r_55 : Int32) => (if r_55 = 0 then bind2 (fX6_finds (-1000000001 : Int32) G J) (fun (r_66 : Int32) (G_67 : M2) => some (r_66, G_67)) else (fX6_moveAll_p3 (1 : Int32) G J).bind (fun (G_58 : M2) => (fX6_passes x1 G_58 J).bind (fun (G_60 : M2) => grd (inb (2 : Int32) 75) (letb (G_60 1 (2 : Int32).toNatClampNeg) (fun v_63 : Int32 => (fX6_moveAll_p3 (0 : Int32) G_60 J).bind (fun (G_64 : M2) => fX6_change_c52  FU x1 (-1 : Int32) v_63 (0 : Int32) G_64 J)))))))
def rmX6_change : Room := { frames := 7, cells := 0, slots := 0, locals := 154 }
theorem hdX6_change : yX6_change.cls = yX6_change.cls ∧ yX6_change.cls ≠ "java/lang/invoke/MethodHandle" ∧ yX6_change.cls ≠ "java/lang/invoke/VarHandle" ∧ (parseMethodDescriptor yX6_change.desc).map (fun d => d.parameters.length) = some 1 := by decide +kernel
set_option maxHeartbeats 4000000 in
set_option maxRecDepth 100000 in
theorem kX6_change (l : Launch) (g : Gl) (ad : Nat → Nat) (sz : Nat) (G : M2) (J : J2) (x1 : Int32) (r : Int32) (G' : M2)  (hf : fX6_change x1 G J = some (r, G')) : MetI l yX6_change (Cond.code yX6_change cX6_change 6 (some .int) :: wsL_law) rmX6_change [.ref (ad 0), .int x1] g (wM g ad G J) sz r (wM g ad G' J) := by
  refine openI (by decide +kernel) (Nat.le_of_ble_eq_true rfl) ?_
  intro p e s m args below meth c A C hE hA hH ls hl
  have hl : lv_has ls 6 [(0, .ref (ad 0)), (1, .int x1)] := hl
  have C : Cx p s m args meth c cX6_change 6 (some .int) RX6 := C
  obtain ⟨hx, hb, hml, hown, hT, hr, hlk⟩ := id C
  rw [fX6_change] at hf
  have lp_52 : ∀ (n_52 : Nat) (y1 : Int32) (y2 : Int32) (y3 : Int32) (y4 : Int32) (G : M2) (H : Heap) (locs : List Loc) (ls : Array Slot), fX6_change_c52  n_52 y1 y2 y3 y4 G J = some (r, G') → Hp g A s H locs (wM g ad G J) → lv_has ls 6 [(0, .ref (ad 0)), (1, .int y1), (2, .int y2), (3, .int y3), (4, .int y4)] → W p l e rmX6_change s m args below meth c H locs 0 0 (QI g A below args s r (wM g ad G' J)) (F0 m 52 ls []) := by
    intro n_52
    induction n_52 with
    | zero =>
      intro y1 y2 y3 y4 G H locs  ls hf hH hl
      rw [fX6_change_c52] at hf
      cases hf
    | succ n_52 ih_52 =>
      intro y1 y2 y3 y4 G H locs  ls hf hH hl
      rw [fX6_change_c52] at hf
      have j_134 : ∀ (y2 : Int32) (G : M2) (H : Heap) (locs : List Loc) (ls : Array Slot), fX6_change_c134  y2 G J = some (r, G') → Hp g A s H locs (wM g ad G J) → lv_has ls 6 [(0, .ref (ad 0)), (2, .int y2)] → W p l e rmX6_change s m args below meth c H locs 0 0 (QI g A below args s r (wM g ad G' J)) (F0 m 134 ls []) := by
        intro y2 G H locs  ls hf hH hl
        rw [fX6_change_c134] at hf
        have j_148 : ∀ (z0 : Int32) (G : M2) (H : Heap) (locs : List Loc) (ls : Array Slot), fX6_change_c148  z0 G J = some (r, G') → Hp g A s H locs (wM g ad G J) → lv_has ls 6 [] → W p l e rmX6_change s m args below meth c H locs 0 0 (QI g A below args s r (wM g ad G' J)) (F0 m 148 ls [.int z0]) := by
          intro z0 G H locs  ls hf hH hl
          rw [fX6_change_c148] at hf
          have hf := Option.some.inj hf
          obtain ⟨h1, h2⟩ := Prod.mk.inj hf
          subst h1
          subst h2
          exact retI C hH rfl dX6_change_148
        refine lv_iload_n hx hb dX6_change_134 rfl (lv_at hl 1 rfl) ?_
        refine lv_if_ge (tgt := 147) hx hb dX6_change_135 (by decide) (fun c_35 => ?_) (fun c_35 => ?_)
        · have hf := if_p hf c_35
          refine lv_iload_n hx hb dX6_change_147 rfl (lv_at hl 1 rfl) ?_
          exact j_148 y2 G _ _ ls hf hH (lv_sub hl [] rfl)
        · have hf := if_n hf c_35
          refine lv_aload_n hx hb dX6_change_138 rfl (lv_at hl 0 rfl) ?_
          refine lv_ldc hx hb hown (hT _ tw_20_8) dX6_change_139 ?_
          obtain ⟨r_36, G_37, hc_38, hf⟩ := bind2_inv hf
          refine aftI (runV C hE hA hH [0, 1, 2, 3, 4, 5, 6, 7, 8, 9, 10, 11] nC_M_M_0_11 (sC_M_M_0_11 g ad G J) (kX6_finds l g ad _ G J (-1000000004 : Int32) r_36 G_37  hc_38) tw_5_9 tw_5_10 tw_5_11 tw_1_5 tw_5_12 hdX6_finds 0 rfl rfl rfl rfl ⟨Nat.le_of_ble_eq_true rfl, Nat.le_of_ble_eq_true rfl⟩ rfl hl.1 (rest := []) rfl (Nat.le_of_ble_eq_true rfl) dX6_change_141 ⟨Nat.zero_le _, Nat.zero_le _⟩) hA hH [0, 1, 2, 3, 4, 5, 6, 7, 8, 9, 10, 11] [] (sC_M_M_0_11 g ad G J) (sR_M_M_0_11 g ad G J) nR_M_M_0_11 dj_M_M_0_11 [0, 1, 2, 3, 4, 5, 6, 7, 8, 9, 10, 11] nP_M_M_0_11 (sP_M_M_0_11 g ad G J G_37 J) (fun H locs hH => ?_)
          refine lv_goto (tgt := 148) hx hb dX6_change_144 (by decide) ?_
          exact j_148 r_36 G_37 _ _ ls hf hH (lv_sub hl [] rfl)
      have j_114 : ∀ (y1 : Int32) (y3 : Int32) (y4 : Int32) (y5 : Int32) (z0 : Int32) (G : M2) (H : Heap) (locs : List Loc) (ls : Array Slot), fX6_change_c114 (fX6_change_c52 n_52) y1 y3 y4 y5 z0 G J = some (r, G') → Hp g A s H locs (wM g ad G J) → lv_has ls 6 [(0, .ref (ad 0)), (1, .int y1), (3, .int y3), (4, .int y4), (5, .int y5)] → W p l e rmX6_change s m args below meth c H locs 0 0 (QI g A below args s r (wM g ad G' J)) (F0 m 114 ls [.int z0]) := by
        intro y1 y3 y4 y5 z0 G H locs  ls hf hH hl
        rw [fX6_change_c114] at hf
        have j_127 : ∀ (y1 : Int32) (y2 : Int32) (y4 : Int32) (z0 : Int32) (G : M2) (H : Heap) (locs : List Loc) (ls : Array Slot), fX6_change_c127 (fX6_change_c52 n_52) y1 y2 y4 z0 G J = some (r, G') → Hp g A s H locs (wM g ad G J) → lv_has ls 6 [(0, .ref (ad 0)), (1, .int y1), (2, .int y2), (4, .int y4)] → W p l e rmX6_change s m args below meth c H locs 0 0 (QI g A below args s r (wM g ad G' J)) (F0 m 127 ls [.int z0]) := by
          intro y1 y2 y4 z0 G H locs  ls hf hH hl
          rw [fX6_change_c127] at hf
          refine lv_istore_n (lv' := [(3, .int z0), (0, .ref (ad 0)), (1, .int y1), (2, .int y2), (4, .int y4)]) hx hb dX6_change_127 rfl hl (by decide) rfl (fun ls hl => ?_)
          obtain ⟨v_39, ev_39⟩ : ∃ z : Int32, z = y4 + (1 : Int32) := ⟨_, rfl⟩
          have hf := letb_at hf v_39 ev_39
          refine lv_iinc (v := v_39) (lv' := [(4, .int v_39), (3, .int z0), (0, .ref (ad 0)), (1, .int y1), (2, .int y2)]) hx hb dX6_change_128 hl (k := 4) rfl (by rw [ev_39]; rfl) (by decide) rfl (fun ls hl => ?_)
          refine lv_goto (tgt := 52) hx hb dX6_change_131 (by decide) ?_
          exact ih_52 y1 y2 z0 v_39 G _ _ ls hf hH (lv_sub hl [2, 3, 4, 1, 0] rfl)
        refine lv_istore_n (lv' := [(2, .int z0), (0, .ref (ad 0)), (1, .int y1), (3, .int y3), (4, .int y4), (5, .int y5)]) hx hb dX6_change_114 rfl hl (by decide) rfl (fun ls hl => ?_)
        refine lv_iload hx hb dX6_change_115 (lv_at hl 5 rfl) ?_
        refine lv_iload_n hx hb dX6_change_117 rfl (lv_at hl 3 rfl) ?_
        refine lv_icmp_le (tgt := 126) hx hb dX6_change_118 (by decide) (fun c_40 => ?_) (fun c_40 => ?_)
        · have hf := if_p hf c_40
          refine lv_iload_n hx hb dX6_change_126 rfl (lv_at hl 3 rfl) ?_
          exact j_127 y1 z0 y4 y3 G _ _ ls hf hH (lv_sub hl [1, 2, 0, 4] rfl)
        · have hf := if_n hf c_40
          refine lv_iload hx hb dX6_change_121 (lv_at hl 5 rfl) ?_
          refine lv_goto (tgt := 127) hx hb dX6_change_123 (by decide) ?_
          exact j_127 y1 z0 y4 y5 G _ _ ls hf hH (lv_sub hl [1, 2, 0, 4] rfl)
      refine lv_iload hx hb dX6_change_52 (lv_at hl 4 rfl) ?_
      refine lv_aload_n hx hb dX6_change_54 rfl (lv_at hl 0 rfl) ?_
      refine gf_RX6_7 C hE hH 0 rfl rfl dX6_change_55 ?_
      refine lv_bipush (v := 6) hx hb dX6_change_58 (by decide) ?_
      obtain ⟨hi_41, hf⟩ := grd_inv hf
      refine xiald C hE hH 1 rfl hi_41 dX6_change_60 ?_
      refine lv_icmp_ge (tgt := 134) hx hb dX6_change_61 (by decide) (fun c_42 => ?_) (fun c_42 => ?_)
      · have hf := if_p hf c_42
        exact j_134 y2 G _ _ ls hf hH (lv_sub hl [0, 2] rfl)
      · have hf := if_n hf c_42
        refine lv_aload_n hx hb dX6_change_64 rfl (lv_at hl 0 rfl) ?_
        refine lv_iload hx hb dX6_change_65 (lv_at hl 4 rfl) ?_
        refine lv_iconst (v := 1) hx hb dX6_change_67 (by decide) ?_
        refine lv_aload_n hx hb dX6_change_68 rfl (lv_at hl 0 rfl) ?_
        refine lv_iload hx hb dX6_change_69 (lv_at hl 4 rfl) ?_
        refine lv_iconst (v := 1) hx hb dX6_change_71 (by decide) ?_
        obtain ⟨r_43, hc_44, hf⟩ := bind_inv hf
        refine aftPI (runV C hE hA hH [0, 1, 2, 3, 4, 5, 6, 7, 8, 9, 10, 11] nC_M_M_0_11 (sC_M_M_0_11 g ad G J) (kX6_its l g ad _ G J y4 (1 : Int32) r_43  hc_44) tw_10_14 tw_10_15 tw_10_16 tw_1_5 tw_10_17 hdX6_its 0 rfl rfl rfl rfl ⟨Nat.le_of_ble_eq_true rfl, Nat.le_of_ble_eq_true rfl⟩ rfl hl.1 (rest := [.int (1 : Int32), .int y4, .ref (ad 0)]) rfl (Nat.le_of_ble_eq_true rfl) dX6_change_72 ⟨Nat.zero_le _, Nat.zero_le _⟩) ?_
        refine lv_isub hx hb dX6_change_75 ?_
        obtain ⟨r_45, G_46, hc_47, hf⟩ := bind2_inv hf
        refine aftI (runV C hE hA hH [0, 1, 2, 3, 4, 5, 6, 7, 8, 9, 10, 11] nC_M_M_0_11 (sC_M_M_0_11 g ad G J) (kX6_turnsOn l g ad _ G J y4 ((1 : Int32) - r_43) r_45 G_46  hc_47) tw_12_20 tw_12_21 tw_12_22 tw_1_5 tw_12_23 hdX6_turnsOn 0 rfl rfl rfl rfl ⟨Nat.le_of_ble_eq_true rfl, Nat.le_of_ble_eq_true rfl⟩ rfl hl.1 (rest := []) rfl (Nat.le_of_ble_eq_true rfl) dX6_change_76 ⟨Nat.zero_le _, Nat.zero_le _⟩) hA hH [0, 1, 2, 3, 4, 5, 6, 7, 8, 9, 10, 11] [] (sC_M_M_0_11 g ad G J) (sR_M_M_0_11 g ad G J) nR_M_M_0_11 dj_M_M_0_11 [0, 1, 2, 3, 4, 5, 6, 7, 8, 9, 10, 11] nP_M_M_0_11 (sP_M_M_0_11 g ad G J G_46 J) (fun H locs hH => ?_)
        refine lv_pop hx hb dX6_change_79 rfl ?_
        refine lv_aload_n hx hb dX6_change_80 rfl (lv_at hl 0 rfl) ?_
        refine lv_iload_n hx hb dX6_change_81 rfl (lv_at hl 1 rfl) ?_
        obtain ⟨G_48, hc_49, hf⟩ := bind_inv hf
        refine aftV (runV C hE hA hH [0, 1, 2, 3, 4, 5, 6, 7, 8, 9, 10, 11] nC_M_M_0_11 (sC_M_M_0_11 g ad G_46 J) (kX6_passes l g ad _ G_46 J y1 G_48  hc_49) tw_16_9 tw_16_10 tw_16_11 tw_1_5 tw_16_12 hdX6_passes 0 rfl rfl rfl rfl ⟨Nat.le_of_ble_eq_true rfl, Nat.le_of_ble_eq_true rfl⟩ rfl hl.1 (rest := []) rfl (Nat.le_of_ble_eq_true rfl) dX6_change_82 ⟨Nat.zero_le _, Nat.zero_le _⟩) hA hH [0, 1, 2, 3, 4, 5, 6, 7, 8, 9, 10, 11] [] (sC_M_M_0_11 g ad G_46 J) (sR_M_M_0_11 g ad G_46 J) nR_M_M_0_11 dj_M_M_0_11 [0, 1, 2, 3, 4, 5, 6, 7, 8, 9, 10, 11] nP_M_M_0_11 (sP_M_M_0_11 g ad G_46 J G_48 J) (fun H locs hH => ?_)
        refine lv_aload_n hx hb dX6_change_85 rfl (lv_at hl 0 rfl) ?_
        refine gf_RX6_7 C hE hH 0 rfl rfl dX6_change_86 ?_
        refine lv_iconst (v := 2) hx hb dX6_change_89 (by decide) ?_
        obtain ⟨hi_50, hf⟩ := grd_inv hf
        refine xiald C hE hH 1 rfl hi_50 dX6_change_90 ?_
        refine lv_topi (fun v_51 ev_51 => ?_)
        have hf := letb_at hf v_51 ev_51
        refine lv_istore (lv' := [(5, .int v_51), (0, .ref (ad 0)), (1, .int y1), (2, .int y2), (3, .int y3), (4, .int y4)]) hx hb dX6_change_91 hl (by decide) rfl (fun ls hl => ?_)
        refine lv_aload_n hx hb dX6_change_93 rfl (lv_at hl 1 rfl) ?_
        refine lv_iconst (v := 0) hx hb dX6_change_94 (by decide) ?_
        refine lv_aload_n hx hb dX6_change_95 rfl (lv_at hl 1 rfl) ?_
        refine gf_RX6_16 C hE hH 0 rfl rfl dX6_change_96 ?_
        obtain ⟨G_52, hc_53, hf⟩ := bind_inv hf
        refine aftV (runV C hE hA hH [0, 1, 2, 3, 4, 5, 6, 7, 8, 9, 10, 11] nC_M_M_0_11 (sC_M_M_0_11 g ad G_48 J) (kX6_moveAll_p3 l g ad _ G_48 J (0 : Int32) G_52  hc_53) tw_19_6 tw_19_7 tw_19_8 tw_1_5 tw_19_9 hdX6_moveAll_p3 0 rfl rfl rfl rfl ⟨Nat.le_of_ble_eq_true rfl, Nat.le_of_ble_eq_true rfl⟩ rfl hl.1 (rest := []) rfl (Nat.le_of_ble_eq_true rfl) dX6_change_99 ⟨Nat.zero_le _, Nat.zero_le _⟩) hA hH [0, 1, 2, 3, 4, 5, 6, 7, 8, 9, 10, 11] [] (sC_M_M_0_11 g ad G_48 J) (sR_M_M_0_11 g ad G_48 J) nR_M_M_0_11 dj_M_M_0_11 [0, 1, 2, 3, 4, 5, 6, 7, 8, 9, 10, 11] nP_M_M_0_11 (sP_M_M_0_11 g ad G_48 J G_52 J) (fun H locs hH => ?_)
        refine lv_iload hx hb dX6_change_102 (lv_at hl 0 rfl) ?_
        refine lv_iload_n hx hb dX6_change_104 rfl (lv_at hl 4 rfl) ?_
        refine lv_icmp_le (tgt := 113) hx hb dX6_change_105 (by decide) (fun c_54 => ?_) (fun c_54 => ?_)
        · have hf := if_p hf c_54
          refine lv_iload_n hx hb dX6_change_113 rfl (lv_at hl 3 rfl) ?_
          exact j_114 y1 y3 y4 v_51 y2 G_52 _ _ ls hf hH (lv_sub hl [1, 2, 4, 5, 0] rfl)
        · have hf := if_n hf c_54
          refine lv_iload hx hb dX6_change_108 (lv_at hl 5 rfl) ?_
          refine lv_goto (tgt := 114) hx hb dX6_change_110 (by decide) ?_
          exact j_114 y1 y3 y4 v_51 y4 G_52 _ _ ls hf hH (lv_sub hl [1, 2, 4, 5, 0] rfl)
  refine lv_iload_n hx hb dX6_change_0 rfl (lv_at hl 1 rfl) ?_
  refine lv_iconst (v := 1) hx hb dX6_change_1 (by decide) ?_
  refine lv_bipush (v := 60) hx hb dX6_change_2 (by decide) ?_
  obtain ⟨r_55, hc_56, hf⟩ := bind_inv hf
  refine aftPI (runS C hE hA hH [] rfl rfl (kX6_in l g ad _ x1 (1 : Int32) (60 : Int32) r_55  hc_56) tw_5_2 tw_5_3 tw_1_5 tw_5_4 hdX6_in rfl rfl ⟨Nat.le_of_ble_eq_true rfl, Nat.le_of_ble_eq_true rfl⟩ rfl hl.1 (rest := []) rfl (Nat.le_of_ble_eq_true rfl) dX6_change_4 ⟨Nat.zero_le _, Nat.zero_le _⟩) ?_
  refine lv_if_ne (tgt := 17) hx hb dX6_change_7 (by decide) (fun c_57 => ?_) (fun c_57 => ?_)
  · have hf := if_n hf c_57
    refine lv_iconst (v := (-1)) hx hb dX6_change_17 (by decide) ?_
    refine lv_istore_n (lv' := [(2, .int (-1 : Int32)), (0, .ref (ad 0)), (1, .int x1)]) hx hb dX6_change_18 rfl hl (by decide) rfl (fun ls hl => ?_)
    refine lv_aload_n hx hb dX6_change_19 rfl (lv_at hl 1 rfl) ?_
    refine lv_iconst (v := 1) hx hb dX6_change_20 (by decide) ?_
    refine lv_aload_n hx hb dX6_change_21 rfl (lv_at hl 1 rfl) ?_
    refine gf_RX6_16 C hE hH 0 rfl rfl dX6_change_22 ?_
    obtain ⟨G_58, hc_59, hf⟩ := bind_inv hf
    refine aftV (runV C hE hA hH [0, 1, 2, 3, 4, 5, 6, 7, 8, 9, 10, 11] nC_M_M_0_11 (sC_M_M_0_11 g ad G J) (kX6_moveAll_p3 l g ad _ G J (1 : Int32) G_58  hc_59) tw_19_6 tw_19_7 tw_19_8 tw_1_5 tw_19_9 hdX6_moveAll_p3 0 rfl rfl rfl rfl ⟨Nat.le_of_ble_eq_true rfl, Nat.le_of_ble_eq_true rfl⟩ rfl hl.1 (rest := []) rfl (Nat.le_of_ble_eq_true rfl) dX6_change_25 ⟨Nat.zero_le _, Nat.zero_le _⟩) hA hH [0, 1, 2, 3, 4, 5, 6, 7, 8, 9, 10, 11] [] (sC_M_M_0_11 g ad G J) (sR_M_M_0_11 g ad G J) nR_M_M_0_11 dj_M_M_0_11 [0, 1, 2, 3, 4, 5, 6, 7, 8, 9, 10, 11] nP_M_M_0_11 (sP_M_M_0_11 g ad G J G_58 J) (fun H locs hH => ?_)
    refine lv_aload_n hx hb dX6_change_28 rfl (lv_at hl 1 rfl) ?_
    refine lv_iload_n hx hb dX6_change_29 rfl (lv_at hl 2 rfl) ?_
    obtain ⟨G_60, hc_61, hf⟩ := bind_inv hf
    refine aftV (runV C hE hA hH [0, 1, 2, 3, 4, 5, 6, 7, 8, 9, 10, 11] nC_M_M_0_11 (sC_M_M_0_11 g ad G_58 J) (kX6_passes l g ad _ G_58 J x1 G_60  hc_61) tw_16_9 tw_16_10 tw_16_11 tw_1_5 tw_16_12 hdX6_passes 0 rfl rfl rfl rfl ⟨Nat.le_of_ble_eq_true rfl, Nat.le_of_ble_eq_true rfl⟩ rfl hl.1 (rest := []) rfl (Nat.le_of_ble_eq_true rfl) dX6_change_30 ⟨Nat.zero_le _, Nat.zero_le _⟩) hA hH [0, 1, 2, 3, 4, 5, 6, 7, 8, 9, 10, 11] [] (sC_M_M_0_11 g ad G_58 J) (sR_M_M_0_11 g ad G_58 J) nR_M_M_0_11 dj_M_M_0_11 [0, 1, 2, 3, 4, 5, 6, 7, 8, 9, 10, 11] nP_M_M_0_11 (sP_M_M_0_11 g ad G_58 J G_60 J) (fun H locs hH => ?_)
    refine lv_aload_n hx hb dX6_change_33 rfl (lv_at hl 1 rfl) ?_
    refine gf_RX6_7 C hE hH 0 rfl rfl dX6_change_34 ?_
    refine lv_iconst (v := 2) hx hb dX6_change_37 (by decide) ?_
    obtain ⟨hi_62, hf⟩ := grd_inv hf
    refine xiald C hE hH 1 rfl hi_62 dX6_change_38 ?_
    refine lv_topi (fun v_63 ev_63 => ?_)
    have hf := letb_at hf v_63 ev_63
    refine lv_istore_n (lv' := [(3, .int v_63), (2, .int (-1 : Int32)), (0, .ref (ad 0)), (1, .int x1)]) hx hb dX6_change_39 rfl hl (by decide) rfl (fun ls hl => ?_)
    refine lv_aload_n hx hb dX6_change_40 rfl (lv_at hl 2 rfl) ?_
    refine lv_iconst (v := 0) hx hb dX6_change_41 (by decide) ?_
    refine lv_aload_n hx hb dX6_change_42 rfl (lv_at hl 2 rfl) ?_
    refine gf_RX6_16 C hE hH 0 rfl rfl dX6_change_43 ?_
    obtain ⟨G_64, hc_65, hf⟩ := bind_inv hf
    refine aftV (runV C hE hA hH [0, 1, 2, 3, 4, 5, 6, 7, 8, 9, 10, 11] nC_M_M_0_11 (sC_M_M_0_11 g ad G_60 J) (kX6_moveAll_p3 l g ad _ G_60 J (0 : Int32) G_64  hc_65) tw_19_6 tw_19_7 tw_19_8 tw_1_5 tw_19_9 hdX6_moveAll_p3 0 rfl rfl rfl rfl ⟨Nat.le_of_ble_eq_true rfl, Nat.le_of_ble_eq_true rfl⟩ rfl hl.1 (rest := []) rfl (Nat.le_of_ble_eq_true rfl) dX6_change_46 ⟨Nat.zero_le _, Nat.zero_le _⟩) hA hH [0, 1, 2, 3, 4, 5, 6, 7, 8, 9, 10, 11] [] (sC_M_M_0_11 g ad G_60 J) (sR_M_M_0_11 g ad G_60 J) nR_M_M_0_11 dj_M_M_0_11 [0, 1, 2, 3, 4, 5, 6, 7, 8, 9, 10, 11] nP_M_M_0_11 (sP_M_M_0_11 g ad G_60 J G_64 J) (fun H locs hH => ?_)
    refine lv_iconst (v := 0) hx hb dX6_change_49 (by decide) ?_
    refine lv_istore (lv' := [(4, .int (0 : Int32)), (3, .int v_63), (2, .int (-1 : Int32)), (0, .ref (ad 0)), (1, .int x1)]) hx hb dX6_change_50 hl (by decide) rfl (fun ls hl => ?_)
    exact lp_52 _ x1 (-1 : Int32) v_63 (0 : Int32) G_64 _ _ ls hf hH (lv_sub hl [3, 4, 2, 1, 0] rfl)
  · have hf := if_p hf c_57
    refine lv_aload_n hx hb dX6_change_10 rfl (lv_at hl 0 rfl) ?_
    refine lv_ldc hx hb hown (hT _ tw_5_1) dX6_change_11 ?_
    obtain ⟨r_66, G_67, hc_68, hf⟩ := bind2_inv hf
    refine aftI (runV C hE hA hH [0, 1, 2, 3, 4, 5, 6, 7, 8, 9, 10, 11] nC_M_M_0_11 (sC_M_M_0_11 g ad G J) (kX6_finds l g ad _ G J (-1000000001 : Int32) r_66 G_67  hc_68) tw_5_9 tw_5_10 tw_5_11 tw_1_5 tw_5_12 hdX6_finds 0 rfl rfl rfl rfl ⟨Nat.le_of_ble_eq_true rfl, Nat.le_of_ble_eq_true rfl⟩ rfl hl.1 (rest := []) rfl (Nat.le_of_ble_eq_true rfl) dX6_change_13 ⟨Nat.zero_le _, Nat.zero_le _⟩) hA hH [0, 1, 2, 3, 4, 5, 6, 7, 8, 9, 10, 11] [] (sC_M_M_0_11 g ad G J) (sR_M_M_0_11 g ad G J) nR_M_M_0_11 dj_M_M_0_11 [0, 1, 2, 3, 4, 5, 6, 7, 8, 9, 10, 11] nP_M_M_0_11 (sP_M_M_0_11 g ad G J G_67 J) (fun H locs hH => ?_)
    have hf := Option.some.inj hf
    obtain ⟨h1, h2⟩ := Prod.mk.inj hf
    subst h1
    subst h2
    exact retI C hH rfl dX6_change_16
def fX6_heard_c21  (G : M2) (J : J2) : Option (Int32 × M2) := bind2 (fX6_finds (-1000000001 : Int32) G J) (fun (r_22 : Int32) (G_23 : M2) => some (r_22, G_23))
def fX6_heard_c79  (y3 : Int32) (G : M2) (J : J2) : Option (Int32 × M2) := (fX6_moveAll_p3 (0 : Int32) G J).bind (fun (G_25 : M2) => some (y3, G_25))
def fX6_heard_c47  : Nat → Int32 → Int32 → Int32 → M2 → J2 → Option (Int32 × M2)
  | 0, _, _, _, _, _ => none
  | n + 1, y1, y3, y4, G, J => grd (inb (6 : Int32) 75) ((if (G 1 (6 : Int32).toNatClampNeg) ≤ y4 then fX6_heard_c79  y3 G J else (fX6_its y4 (3 : Int32) G J).bind (fun (r_29 : Int32) => letb (y3 + ((r_29 >>> (y1 &&& 31)) &&& (1 : Int32))) (fun v_31 : Int32 => letb (y4 + (1 : Int32)) (fun v_32 : Int32 => fX6_heard_c47 n y1 v_31 v_32 G J)))))
def fX6_heard (x1 : Int32) (x2 : Int32) (G : M2) (J : J2) : Option (Int32 × M2) := (fX6_in x1 (0 : Int32) (8 : Int32)).bind (fun (r_33 : Int32) => (if r_33 = 0 then fX6_heard_c21  G J else (fX6_in x2 (0 : Int32) (200 : Int32)).bind (fun (r_36 : Int32) => (if r_36 = 0 then fX6_heard_c21  G J else (fX6_moveAll_p3 (1 : Int32) G J).bind (fun (G_39 : M2) => (fX6_passes x2 G_39 J).bind (fun (G_41 : M2) => fX6_heard_c47  FU x1 (0 : Int32) (0 : Int32) G_41 J))))))
def rmX6_heard : Room := { frames := 7, cells := 0, slots := 0, locals := 154 }
theorem hdX6_heard : yX6_heard.cls = yX6_heard.cls ∧ yX6_heard.cls ≠ "java/lang/invoke/MethodHandle" ∧ yX6_heard.cls ≠ "java/lang/invoke/VarHandle" ∧ (parseMethodDescriptor yX6_heard.desc).map (fun d => d.parameters.length) = some 2 := by decide +kernel
set_option maxHeartbeats 4000000 in
set_option maxRecDepth 100000 in
theorem kX6_heard (l : Launch) (g : Gl) (ad : Nat → Nat) (sz : Nat) (G : M2) (J : J2) (x1 : Int32) (x2 : Int32) (r : Int32) (G' : M2)  (hf : fX6_heard x1 x2 G J = some (r, G')) : MetI l yX6_heard (Cond.code yX6_heard cX6_heard 5 (some .int) :: wsL_law) rmX6_heard [.ref (ad 0), .int x1, .int x2] g (wM g ad G J) sz r (wM g ad G' J) := by
  refine openI (by decide +kernel) (Nat.le_of_ble_eq_true rfl) ?_
  intro p e s m args below meth c A C hE hA hH ls hl
  have hl : lv_has ls 5 [(0, .ref (ad 0)), (1, .int x1), (2, .int x2)] := hl
  have C : Cx p s m args meth c cX6_heard 5 (some .int) RX6 := C
  obtain ⟨hx, hb, hml, hown, hT, hr, hlk⟩ := id C
  rw [fX6_heard] at hf
  have j_21 : ∀ (G : M2) (H : Heap) (locs : List Loc) (ls : Array Slot), fX6_heard_c21  G J = some (r, G') → Hp g A s H locs (wM g ad G J) → lv_has ls 5 [(0, .ref (ad 0))] → W p l e rmX6_heard s m args below meth c H locs 0 0 (QI g A below args s r (wM g ad G' J)) (F0 m 21 ls []) := by
    intro G H locs  ls hf hH hl
    rw [fX6_heard_c21] at hf
    refine lv_aload_n hx hb dX6_heard_21 rfl (lv_at hl 0 rfl) ?_
    refine lv_ldc hx hb hown (hT _ tw_5_1) dX6_heard_22 ?_
    obtain ⟨r_22, G_23, hc_24, hf⟩ := bind2_inv hf
    refine aftI (runV C hE hA hH [0, 1, 2, 3, 4, 5, 6, 7, 8, 9, 10, 11] nC_M_M_0_11 (sC_M_M_0_11 g ad G J) (kX6_finds l g ad _ G J (-1000000001 : Int32) r_22 G_23  hc_24) tw_5_9 tw_5_10 tw_5_11 tw_1_5 tw_5_12 hdX6_finds 0 rfl rfl rfl rfl ⟨Nat.le_of_ble_eq_true rfl, Nat.le_of_ble_eq_true rfl⟩ rfl hl.1 (rest := []) rfl (Nat.le_of_ble_eq_true rfl) dX6_heard_24 ⟨Nat.zero_le _, Nat.zero_le _⟩) hA hH [0, 1, 2, 3, 4, 5, 6, 7, 8, 9, 10, 11] [] (sC_M_M_0_11 g ad G J) (sR_M_M_0_11 g ad G J) nR_M_M_0_11 dj_M_M_0_11 [0, 1, 2, 3, 4, 5, 6, 7, 8, 9, 10, 11] nP_M_M_0_11 (sP_M_M_0_11 g ad G J G_23 J) (fun H locs hH => ?_)
    have hf := Option.some.inj hf
    obtain ⟨h1, h2⟩ := Prod.mk.inj hf
    subst h1
    subst h2
    exact retI C hH rfl dX6_heard_27
  have lp_47 : ∀ (n_47 : Nat) (y1 : Int32) (y3 : Int32) (y4 : Int32) (G : M2) (H : Heap) (locs : List Loc) (ls : Array Slot), fX6_heard_c47  n_47 y1 y3 y4 G J = some (r, G') → Hp g A s H locs (wM g ad G J) → lv_has ls 5 [(0, .ref (ad 0)), (1, .int y1), (3, .int y3), (4, .int y4)] → W p l e rmX6_heard s m args below meth c H locs 0 0 (QI g A below args s r (wM g ad G' J)) (F0 m 47 ls []) := by
    intro n_47
    induction n_47 with
    | zero =>
      intro y1 y3 y4 G H locs  ls hf hH hl
      rw [fX6_heard_c47] at hf
      cases hf
    | succ n_47 ih_47 =>
      intro y1 y3 y4 G H locs  ls hf hH hl
      rw [fX6_heard_c47] at hf
      have j_79 : ∀ (y3 : Int32) (G : M2) (H : Heap) (locs : List Loc) (ls : Array Slot), fX6_heard_c79  y3 G J = some (r, G') → Hp g A s H locs (wM g ad G J) → lv_has ls 5 [(0, .ref (ad 0)), (3, .int y3)] → W p l e rmX6_heard s m args below meth c H locs 0 0 (QI g A below args s r (wM g ad G' J)) (F0 m 79 ls []) := by
        intro y3 G H locs  ls hf hH hl
        rw [fX6_heard_c79] at hf
        refine lv_aload_n hx hb dX6_heard_79 rfl (lv_at hl 0 rfl) ?_
        refine lv_iconst (v := 0) hx hb dX6_heard_80 (by decide) ?_
        refine lv_aload_n hx hb dX6_heard_81 rfl (lv_at hl 0 rfl) ?_
        refine gf_RX6_16 C hE hH 0 rfl rfl dX6_heard_82 ?_
        obtain ⟨G_25, hc_26, hf⟩ := bind_inv hf
        refine aftV (runV C hE hA hH [0, 1, 2, 3, 4, 5, 6, 7, 8, 9, 10, 11] nC_M_M_0_11 (sC_M_M_0_11 g ad G J) (kX6_moveAll_p3 l g ad _ G J (0 : Int32) G_25  hc_26) tw_19_6 tw_19_7 tw_19_8 tw_1_5 tw_19_9 hdX6_moveAll_p3 0 rfl rfl rfl rfl ⟨Nat.le_of_ble_eq_true rfl, Nat.le_of_ble_eq_true rfl⟩ rfl hl.1 (rest := []) rfl (Nat.le_of_ble_eq_true rfl) dX6_heard_85 ⟨Nat.zero_le _, Nat.zero_le _⟩) hA hH [0, 1, 2, 3, 4, 5, 6, 7, 8, 9, 10, 11] [] (sC_M_M_0_11 g ad G J) (sR_M_M_0_11 g ad G J) nR_M_M_0_11 dj_M_M_0_11 [0, 1, 2, 3, 4, 5, 6, 7, 8, 9, 10, 11] nP_M_M_0_11 (sP_M_M_0_11 g ad G J G_25 J) (fun H locs hH => ?_)
        refine lv_iload_n hx hb dX6_heard_88 rfl (lv_at hl 1 rfl) ?_
        have hf := Option.some.inj hf
        obtain ⟨h1, h2⟩ := Prod.mk.inj hf
        subst h1
        subst h2
        exact retI C hH rfl dX6_heard_89
      refine lv_iload hx hb dX6_heard_47 (lv_at hl 3 rfl) ?_
      refine lv_aload_n hx hb dX6_heard_49 rfl (lv_at hl 0 rfl) ?_
      refine gf_RX6_7 C hE hH 0 rfl rfl dX6_heard_50 ?_
      refine lv_bipush (v := 6) hx hb dX6_heard_53 (by decide) ?_
      obtain ⟨hi_27, hf⟩ := grd_inv hf
      refine xiald C hE hH 1 rfl hi_27 dX6_heard_55 ?_
      refine lv_icmp_ge (tgt := 79) hx hb dX6_heard_56 (by decide) (fun c_28 => ?_) (fun c_28 => ?_)
      · have hf := if_p hf c_28
        exact j_79 y3 G _ _ ls hf hH (lv_sub hl [0, 2] rfl)
      · have hf := if_n hf c_28
        refine lv_iload_n hx hb dX6_heard_59 rfl (lv_at hl 2 rfl) ?_
        refine lv_aload_n hx hb dX6_heard_60 rfl (lv_at hl 0 rfl) ?_
        refine lv_iload hx hb dX6_heard_61 (lv_at hl 3 rfl) ?_
        refine lv_iconst (v := 3) hx hb dX6_heard_63 (by decide) ?_
        obtain ⟨r_29, hc_30, hf⟩ := bind_inv hf
        refine aftPI (runV C hE hA hH [0, 1, 2, 3, 4, 5, 6, 7, 8, 9, 10, 11] nC_M_M_0_11 (sC_M_M_0_11 g ad G J) (kX6_its l g ad _ G J y4 (3 : Int32) r_29  hc_30) tw_10_14 tw_10_15 tw_10_16 tw_1_5 tw_10_17 hdX6_its 0 rfl rfl rfl rfl ⟨Nat.le_of_ble_eq_true rfl, Nat.le_of_ble_eq_true rfl⟩ rfl hl.1 (rest := [.int y3]) rfl (Nat.le_of_ble_eq_true rfl) dX6_heard_64 ⟨Nat.zero_le _, Nat.zero_le _⟩) ?_
        refine lv_iload_n hx hb dX6_heard_67 rfl (lv_at hl 1 rfl) ?_
        refine lv_ishr hx hb dX6_heard_68 ?_
        refine lv_iconst (v := 1) hx hb dX6_heard_69 (by decide) ?_
        refine lv_iand hx hb dX6_heard_70 ?_
        refine lv_iadd hx hb dX6_heard_71 ?_
        refine lv_topi (fun v_31 ev_31 => ?_)
        have hf := letb_at hf v_31 ev_31
        refine lv_istore_n (lv' := [(3, .int v_31), (0, .ref (ad 0)), (1, .int y1), (4, .int y4)]) hx hb dX6_heard_72 rfl hl (by decide) rfl (fun ls hl => ?_)
        obtain ⟨v_32, ev_32⟩ : ∃ z : Int32, z = y4 + (1 : Int32) := ⟨_, rfl⟩
        have hf := letb_at hf v_32 ev_32
        refine lv_iinc (v := v_32) (lv' := [(4, .int v_32), (3, .int v_31), (0, .ref (ad 0)), (1, .int y1)]) hx hb dX6_heard_73 hl (k := 3) rfl (by rw [ev_32]; rfl) (by decide) rfl (fun ls hl => ?_)
        refine lv_goto (tgt := 47) hx hb dX6_heard_76 (by decide) ?_
        exact ih_47 y1 v_31 v_32 G _ _ ls hf hH (lv_sub hl [2, 3, 1, 0] rfl)
  refine lv_iload_n hx hb dX6_heard_0 rfl (lv_at hl 1 rfl) ?_
  refine lv_iconst (v := 0) hx hb dX6_heard_1 (by decide) ?_
  refine lv_bipush (v := 8) hx hb dX6_heard_2 (by decide) ?_
  obtain ⟨r_33, hc_34, hf⟩ := bind_inv hf
  refine aftPI (runS C hE hA hH [] rfl rfl (kX6_in l g ad _ x1 (0 : Int32) (8 : Int32) r_33  hc_34) tw_5_2 tw_5_3 tw_1_5 tw_5_4 hdX6_in rfl rfl ⟨Nat.le_of_ble_eq_true rfl, Nat.le_of_ble_eq_true rfl⟩ rfl hl.1 (rest := []) rfl (Nat.le_of_ble_eq_true rfl) dX6_heard_4 ⟨Nat.zero_le _, Nat.zero_le _⟩) ?_
  refine lv_if_eq (tgt := 21) hx hb dX6_heard_7 (by decide) (fun c_35 => ?_) (fun c_35 => ?_)
  · have hf := if_p hf c_35
    exact j_21 G _ _ ls hf hH (lv_sub hl [0] rfl)
  · have hf := if_n hf c_35
    refine lv_iload_n hx hb dX6_heard_10 rfl (lv_at hl 2 rfl) ?_
    refine lv_iconst (v := 0) hx hb dX6_heard_11 (by decide) ?_
    refine lv_sipush (v := 200) hx hb dX6_heard_12 (by decide) ?_
    obtain ⟨r_36, hc_37, hf⟩ := bind_inv hf
    refine aftPI (runS C hE hA hH [] rfl rfl (kX6_in l g ad _ x2 (0 : Int32) (200 : Int32) r_36  hc_37) tw_5_2 tw_5_3 tw_1_5 tw_5_4 hdX6_in rfl rfl ⟨Nat.le_of_ble_eq_true rfl, Nat.le_of_ble_eq_true rfl⟩ rfl hl.1 (rest := []) rfl (Nat.le_of_ble_eq_true rfl) dX6_heard_15 ⟨Nat.zero_le _, Nat.zero_le _⟩) ?_
    refine lv_if_ne (tgt := 28) hx hb dX6_heard_18 (by decide) (fun c_38 => ?_) (fun c_38 => ?_)
    · have hf := if_n hf c_38
      refine lv_iconst (v := 0) hx hb dX6_heard_28 (by decide) ?_
      refine lv_istore_n (lv' := [(3, .int (0 : Int32)), (0, .ref (ad 0)), (1, .int x1), (2, .int x2)]) hx hb dX6_heard_29 rfl hl (by decide) rfl (fun ls hl => ?_)
      refine lv_aload_n hx hb dX6_heard_30 rfl (lv_at hl 1 rfl) ?_
      refine lv_iconst (v := 1) hx hb dX6_heard_31 (by decide) ?_
      refine lv_aload_n hx hb dX6_heard_32 rfl (lv_at hl 1 rfl) ?_
      refine gf_RX6_16 C hE hH 0 rfl rfl dX6_heard_33 ?_
      obtain ⟨G_39, hc_40, hf⟩ := bind_inv hf
      refine aftV (runV C hE hA hH [0, 1, 2, 3, 4, 5, 6, 7, 8, 9, 10, 11] nC_M_M_0_11 (sC_M_M_0_11 g ad G J) (kX6_moveAll_p3 l g ad _ G J (1 : Int32) G_39  hc_40) tw_19_6 tw_19_7 tw_19_8 tw_1_5 tw_19_9 hdX6_moveAll_p3 0 rfl rfl rfl rfl ⟨Nat.le_of_ble_eq_true rfl, Nat.le_of_ble_eq_true rfl⟩ rfl hl.1 (rest := []) rfl (Nat.le_of_ble_eq_true rfl) dX6_heard_36 ⟨Nat.zero_le _, Nat.zero_le _⟩) hA hH [0, 1, 2, 3, 4, 5, 6, 7, 8, 9, 10, 11] [] (sC_M_M_0_11 g ad G J) (sR_M_M_0_11 g ad G J) nR_M_M_0_11 dj_M_M_0_11 [0, 1, 2, 3, 4, 5, 6, 7, 8, 9, 10, 11] nP_M_M_0_11 (sP_M_M_0_11 g ad G J G_39 J) (fun H locs hH => ?_)
      refine lv_aload_n hx hb dX6_heard_39 rfl (lv_at hl 1 rfl) ?_
      refine lv_iload_n hx hb dX6_heard_40 rfl (lv_at hl 3 rfl) ?_
      obtain ⟨G_41, hc_42, hf⟩ := bind_inv hf
      refine aftV (runV C hE hA hH [0, 1, 2, 3, 4, 5, 6, 7, 8, 9, 10, 11] nC_M_M_0_11 (sC_M_M_0_11 g ad G_39 J) (kX6_passes l g ad _ G_39 J x2 G_41  hc_42) tw_16_9 tw_16_10 tw_16_11 tw_1_5 tw_16_12 hdX6_passes 0 rfl rfl rfl rfl ⟨Nat.le_of_ble_eq_true rfl, Nat.le_of_ble_eq_true rfl⟩ rfl hl.1 (rest := []) rfl (Nat.le_of_ble_eq_true rfl) dX6_heard_41 ⟨Nat.zero_le _, Nat.zero_le _⟩) hA hH [0, 1, 2, 3, 4, 5, 6, 7, 8, 9, 10, 11] [] (sC_M_M_0_11 g ad G_39 J) (sR_M_M_0_11 g ad G_39 J) nR_M_M_0_11 dj_M_M_0_11 [0, 1, 2, 3, 4, 5, 6, 7, 8, 9, 10, 11] nP_M_M_0_11 (sP_M_M_0_11 g ad G_39 J G_41 J) (fun H locs hH => ?_)
      refine lv_iconst (v := 0) hx hb dX6_heard_44 (by decide) ?_
      refine lv_istore (lv' := [(4, .int (0 : Int32)), (3, .int (0 : Int32)), (0, .ref (ad 0)), (1, .int x1), (2, .int x2)]) hx hb dX6_heard_45 hl (by decide) rfl (fun ls hl => ?_)
      exact lp_47 _ x1 (0 : Int32) (0 : Int32) G_41 _ _ ls hf hH (lv_sub hl [2, 3, 1, 0] rfl)
    · have hf := if_p hf c_38
      exact j_21 G _ _ ls hf hH (lv_sub hl [0] rfl)
