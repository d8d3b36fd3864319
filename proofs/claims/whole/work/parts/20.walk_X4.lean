def fX4_kindShown_c69  (z0 : Int32) (T : M2) : Option (Int32) := some z0
def fX4_kindShown (T : M2) : Option (Int32) := (fX3_showsWord (0) T).bind (fun (r_19 : Int32) => (if r_19 = 0 then (fX3_showsWord (1) T).bind (fun (r_22 : Int32) => (if r_22 = 0 then (fX3_showsWord (2) T).bind (fun (r_25 : Int32) => (if r_25 = 0 then (fX3_showsWord (3) T).bind (fun (r_28 : Int32) => (if r_28 = 0 then (fX3_showsWord (4) T).bind (fun (r_31 : Int32) => (if r_31 = 0 then (fX3_showsWord (5) T).bind (fun (r_34 : Int32) => (if r_34 = 0 then fX4_kindShown_c69  (-1 : Int32) T else fX4_kindShown_c69  (5 : Int32) T)) else some (4 : Int32))) else some (3 : Int32))) else some (2 : Int32))) else some (1 : Int32))) else some (0 : Int32)))
def rmX4_kindShown : Room := { frames := 5, cells := 0, slots := 0, locals := 107 }
theorem hdX4_kindShown : yX4_kindShown.cls = yX4_kindShown.cls ∧ yX4_kindShown.cls ≠ "java/lang/invoke/MethodHandle" ∧ yX4_kindShown.cls ≠ "java/lang/invoke/VarHandle" ∧ (parseMethodDescriptor yX4_kindShown.desc).map (fun d => d.parameters.length) = some 1 := by decide +kernel
set_option maxHeartbeats 4000000 in
set_option maxRecDepth 100000 in
theorem kX4_kindShown (l : Launch) (g : Gl) (ad : Nat → Nat) (sz : Nat) (T : M2)  (r : Int32)  (hf : fX4_kindShown T = some r) : MetPI l yX4_kindShown (Cond.code yX4_kindShown cX4_kindShown 1 (some .int) :: wsL_law) rmX4_kindShown [.ref (ad 0)] g (wT g ad T) sz r := by
  refine openPI (by decide +kernel) (Nat.le_of_ble_eq_true rfl) ?_
  intro p e s m args below meth c A C hE hA hH ls hl
  have hl : lv_has ls 1 [(0, .ref (ad 0))] := hl
  have C : Cx p s m args meth c cX4_kindShown 1 (some .int) RX4 := C
  obtain ⟨hx, hb, hml, hown, hT, hr, hlk⟩ := id C
  rw [fX4_kindShown] at hf
  have j_69 : ∀ (z0 : Int32) (ls : Array Slot), fX4_kindShown_c69  z0 T = some r → lv_has ls 1 [] → W p l e rmX4_kindShown s m args below meth c s.heap [] 0 0 (QPI below args s r) (F0 m 69 ls [.int z0]) := by
    intro z0  ls hf hl
    rw [fX4_kindShown_c69] at hf
    have h1 := Option.some.inj hf
    subst h1
    exact retPI C rfl dX4_kindShown_69
  refine lv_aload_n hx hb dX4_kindShown_0 rfl (lv_at hl 0 rfl) ?_
  refine va_ldcS hx hb hown (hE.2.2.2.2.2.2.2.2.2.2.1) dX4_kindShown_1 ?_
  obtain ⟨r_19, hc_20, hf⟩ := bind_inv hf
  refine aftPI (runV C hE hA hH [0, 1] nC_T_T_0_1 (sC_T_T_0_1 g ad T) (kX3_showsWord l g ad _ T (0) r_19 (by decide) hc_20) tw_27_21 tw_27_22 tw_27_23 tw_1_22 tw_28_0 hdX3_showsWord 0 rfl rfl rfl rfl ⟨Nat.le_of_ble_eq_true rfl, Nat.le_of_ble_eq_true rfl⟩ rfl hl.1 (rest := []) rfl (Nat.le_of_ble_eq_true rfl) dX4_kindShown_3 ⟨Nat.zero_le _, Nat.zero_le _⟩) ?_
  refine lv_if_eq (tgt := 11) hx hb dX4_kindShown_6 (by decide) (fun c_21 => ?_) (fun c_21 => ?_)
  · have hf := if_p hf c_21
    refine lv_aload_n hx hb dX4_kindShown_11 rfl (lv_at hl 0 rfl) ?_
    refine va_ldcS hx hb hown (hE.2.2.2.2.2.2.2.2.2.2.2.1) dX4_kindShown_12 ?_
    obtain ⟨r_22, hc_23, hf⟩ := bind_inv hf
    refine aftPI (runV C hE hA hH [0, 1] nC_T_T_0_1 (sC_T_T_0_1 g ad T) (kX3_showsWord l g ad _ T (1) r_22 (by decide) hc_23) tw_27_21 tw_27_22 tw_27_23 tw_1_22 tw_28_0 hdX3_showsWord 0 rfl rfl rfl rfl ⟨Nat.le_of_ble_eq_true rfl, Nat.le_of_ble_eq_true rfl⟩ rfl hl.1 (rest := []) rfl (Nat.le_of_ble_eq_true rfl) dX4_kindShown_14 ⟨Nat.zero_le _, Nat.zero_le _⟩) ?_
    refine lv_if_eq (tgt := 22) hx hb dX4_kindShown_17 (by decide) (fun c_24 => ?_) (fun c_24 => ?_)
    · have hf := if_p hf c_24
      refine lv_aload_n hx hb dX4_kindShown_22 rfl (lv_at hl 0 rfl) ?_
      refine va_ldcS hx hb hown (hE.2.2.2.2.2.2.2.2.2.2.2.2.1) dX4_kindShown_23 ?_
      obtain ⟨r_25, hc_26, hf⟩ := bind_inv hf
      refine aftPI (runV C hE hA hH [0, 1] nC_T_T_0_1 (sC_T_T_0_1 g ad T) (kX3_showsWord l g ad _ T (2) r_25 (by decide) hc_26) tw_27_21 tw_27_22 tw_27_23 tw_1_22 tw_28_0 hdX3_showsWord 0 rfl rfl rfl rfl ⟨Nat.le_of_ble_eq_true rfl, Nat.le_of_ble_eq_true rfl⟩ rfl hl.1 (rest := []) rfl (Nat.le_of_ble_eq_true rfl) dX4_kindShown_25 ⟨Nat.zero_le _, Nat.zero_le _⟩) ?_
      refine lv_if_eq (tgt := 33) hx hb dX4_kindShown_28 (by decide) (fun c_27 => ?_) (fun c_27 => ?_)
      · have hf := if_p hf c_27
        refine lv_aload_n hx hb dX4_kindShown_33 rfl (lv_at hl 0 rfl) ?_
        refine va_ldcS hx hb hown (hE.2.2.2.2.2.2.2.2.2.2.2.2.2.1) dX4_kindShown_34 ?_
        obtain ⟨r_28, hc_29, hf⟩ := bind_inv hf
        refine aftPI (runV C hE hA hH [0, 1] nC_T_T_0_1 (sC_T_T_0_1 g ad T) (kX3_showsWord l g ad _ T (3) r_28 (by decide) hc_29) tw_27_21 tw_27_22 tw_27_23 tw_1_22 tw_28_0 hdX3_showsWord 0 rfl rfl rfl rfl ⟨Nat.le_of_ble_eq_true rfl, Nat.le_of_ble_eq_true rfl⟩ rfl hl.1 (rest := []) rfl (Nat.le_of_ble_eq_true rfl) dX4_kindShown_36 ⟨Nat.zero_le _, Nat.zero_le _⟩) ?_
        refine lv_if_eq (tgt := 44) hx hb dX4_kindShown_39 (by decide) (fun c_30 => ?_) (fun c_30 => ?_)
        · have hf := if_p hf c_30
          refine lv_aload_n hx hb dX4_kindShown_44 rfl (lv_at hl 0 rfl) ?_
          refine va_ldcS hx hb hown (hE.2.2.2.2.2.2.2.2.2.2.2.2.2.2.1) dX4_kindShown_45 ?_
          obtain ⟨r_31, hc_32, hf⟩ := bind_inv hf
          refine aftPI (runV C hE hA hH [0, 1] nC_T_T_0_1 (sC_T_T_0_1 g ad T) (kX3_showsWord l g ad _ T (4) r_31 (by decide) hc_32) tw_27_21 tw_27_22 tw_27_23 tw_1_22 tw_28_0 hdX3_showsWord 0 rfl rfl rfl rfl ⟨Nat.le_of_ble_eq_true rfl, Nat.le_of_ble_eq_true rfl⟩ rfl hl.1 (rest := []) rfl (Nat.le_of_ble_eq_true rfl) dX4_kindShown_47 ⟨Nat.zero_le _, Nat.zero_le _⟩) ?_
          refine lv_if_eq (tgt := 55) hx hb dX4_kindShown_50 (by decide) (fun c_33 => ?_) (fun c_33 => ?_)
          · have hf := if_p hf c_33
            refine lv_aload_n hx hb dX4_kindShown_55 rfl (lv_at hl 0 rfl) ?_
            refine va_ldcS hx hb hown (hE.2.2.2.2.2.2.2.2.2.2.2.2.2.2.2.1) dX4_kindShown_56 ?_
            obtain ⟨r_34, hc_35, hf⟩ := bind_inv hf
            refine aftPI (runV C hE hA hH [0, 1] nC_T_T_0_1 (sC_T_T_0_1 g ad T) (kX3_showsWord l g ad _ T (5) r_34 (by decide) hc_35) tw_27_21 tw_27_22 tw_27_23 tw_1_22 tw_28_0 hdX3_showsWord 0 rfl rfl rfl rfl ⟨Nat.le_of_ble_eq_true rfl, Nat.le_of_ble_eq_true rfl⟩ rfl hl.1 (rest := []) rfl (Nat.le_of_ble_eq_true rfl) dX4_kindShown_58 ⟨Nat.zero_le _, Nat.zero_le _⟩) ?_
            refine lv_if_eq (tgt := 68) hx hb dX4_kindShown_61 (by decide) (fun c_36 => ?_) (fun c_36 => ?_)
            · have hf := if_p hf c_36
              refine lv_iconst (v := (-1)) hx hb dX4_kindShown_68 (by decide) ?_
              exact j_69 (-1 : Int32) ls hf (lv_sub hl [] rfl)
            · have hf := if_n hf c_36
              refine lv_iconst (v := 5) hx hb dX4_kindShown_64 (by decide) ?_
              refine lv_goto (tgt := 69) hx hb dX4_kindShown_65 (by decide) ?_
              exact j_69 (5 : Int32) ls hf (lv_sub hl [] rfl)
          · have hf := if_n hf c_33
            refine lv_iconst (v := 4) hx hb dX4_kindShown_53 (by decide) ?_
            have h1 := Option.some.inj hf
            subst h1
            exact retPI C rfl dX4_kindShown_54
        · have hf := if_n hf c_30
          refine lv_iconst (v := 3) hx hb dX4_kindShown_42 (by decide) ?_
          have h1 := Option.some.inj hf
          subst h1
          exact retPI C rfl dX4_kindShown_43
      · have hf := if_n hf c_27
        refine lv_iconst (v := 2) hx hb dX4_kindShown_31 (by decide) ?_
        have h1 := Option.some.inj hf
        subst h1
        exact retPI C rfl dX4_kindShown_32
    · have hf := if_n hf c_24
      refine lv_iconst (v := 1) hx hb dX4_kindShown_20 (by decide) ?_
      have h1 := Option.some.inj hf
      subst h1
      exact retPI C rfl dX4_kindShown_21
  · have hf := if_n hf c_21
    refine lv_iconst (v := 0) hx hb dX4_kindShown_9 (by decide) ?_
    have h1 := Option.some.inj hf
    subst h1
    exact retPI C rfl dX4_kindShown_10
def fX4_takeMeasure_c27  (y2 : Int32) (z0 : Int32) (T : M2) (L : M2) : Option (Int32 × M2 × M2) := (if 0 ≤ z0 then (fX1_putMeasure y2 z0 L).bind (fun (L_13 : M2) => some ((1 : Int32), T, L_13)) else some ((0 : Int32), T, L))
def fX4_takeMeasure (x3 : Int32) (T : M2) (L : M2) : Option (Int32 × M2 × M2) := (fX5_within x3 (0 : Int32) (3 : Int32)).bind (fun (r_15 : Int32) => (if r_15 = 0 then fX4_takeMeasure_c27  x3 (-1 : Int32) T L else grd (inb x3 4) (grd (inb x3 4) (bind2 (fX3_takeNumber (tabL x3.toNatClampNeg) (tabM x3.toNatClampNeg) T) (fun (r_20 : Int32) (T_21 : M2) => fX4_takeMeasure_c27  x3 r_20 T_21 L)))))
def rmX4_takeMeasure : Room := { frames := 3, cells := 0, slots := 0, locals := 64 }
theorem hdX4_takeMeasure : yX4_takeMeasure.cls = yX4_takeMeasure.cls ∧ yX4_takeMeasure.cls ≠ "java/lang/invoke/MethodHandle" ∧ yX4_takeMeasure.cls ≠ "java/lang/invoke/VarHandle" ∧ (parseMethodDescriptor yX4_takeMeasure.desc).map (fun d => d.parameters.length) = some 3 := by decide +kernel
set_option maxHeartbeats 4000000 in
set_option maxRecDepth 100000 in
theorem kX4_takeMeasure (l : Launch) (g : Gl) (ad : Nat → Nat) (sz : Nat) (T : M2) (L : M2) (x3 : Int32) (r : Int32) (T' : M2) (L' : M2)  (hf : fX4_takeMeasure x3 T L = some (r, T', L')) : MetI l yX4_takeMeasure (Cond.code yX4_takeMeasure cX4_takeMeasure 4 (some .boolean) :: wsL_law) rmX4_takeMeasure [.ref (ad 0), .ref (ad 2), .int x3] g (wTL g ad T L) sz r (wTL g ad T' L') := by
  refine openI (by decide +kernel) (Nat.le_of_ble_eq_true rfl) ?_
  intro p e s m args below meth c A C hE hA hH ls hl
  have hl : lv_has ls 4 [(0, .ref (ad 0)), (1, .ref (ad 2)), (2, .int x3)] := hl
  have C : Cx p s m args meth c cX4_takeMeasure 4 (some .boolean) RX4 := C
  obtain ⟨hx, hb, hml, hown, hT, hr, hlk⟩ := id C
  rw [fX4_takeMeasure] at hf
  have j_27 : ∀ (y2 : Int32) (z0 : Int32) (T : M2) (L : M2) (H : Heap) (locs : List Loc) (ls : Array Slot), fX4_takeMeasure_c27  y2 z0 T L = some (r, T', L') → Hp g A s H locs (wTL g ad T L) → lv_has ls 4 [(1, .ref (ad 2)), (2, .int y2)] → W p l e rmX4_takeMeasure s m args below meth c H locs 0 0 (QI g A below args s r (wTL g ad T' L')) (F0 m 27 ls [.int z0]) := by
    intro y2 z0 T L H locs  ls hf hH hl
    rw [fX4_takeMeasure_c27] at hf
    refine lv_istore_n (lv' := [(3, .int z0), (1, .ref (ad 2)), (2, .int y2)]) hx hb dX4_takeMeasure_27 rfl hl (by decide) rfl (fun ls hl => ?_)
    refine lv_iload_n hx hb dX4_takeMeasure_28 rfl (lv_at hl 0 rfl) ?_
    refine lv_if_ge (tgt := 34) hx hb dX4_takeMeasure_29 (by decide) (fun c_12 => ?_) (fun c_12 => ?_)
    · have hf := if_p hf c_12
      refine lv_aload_n hx hb dX4_takeMeasure_34 rfl (lv_at hl 1 rfl) ?_
      refine lv_iload_n hx hb dX4_takeMeasure_35 rfl (lv_at hl 2 rfl) ?_
      refine lv_iload_n hx hb dX4_takeMeasure_36 rfl (lv_at hl 0 rfl) ?_
      obtain ⟨L_13, hc_14, hf⟩ := bind_inv hf
      refine aftV (runV C hE hA hH [2, 3, 4, 5, 6, 7, 8] nC_TL_L_2_8 (sC_TL_L_2_8 g ad T L) (kX1_putMeasure l g (fun k => ad (2 + k)) _ L y2 z0 L_13  hc_14) tw_31_4 tw_7_5 tw_7_6 tw_1_15 tw_7_7 hdX1_putMeasure 2 rfl rfl rfl rfl ⟨Nat.le_of_ble_eq_true rfl, Nat.le_of_ble_eq_true rfl⟩ rfl hl.1 (rest := []) rfl (Nat.le_of_ble_eq_true rfl) dX4_takeMeasure_37 ⟨Nat.zero_le _, Nat.zero_le _⟩) hA hH [2, 3, 4, 5, 6, 7, 8] [0, 1] (sC_TL_L_2_8 g ad T L) (sR_TL_L_2_8 g ad T L) nR_TL_L_2_8 dj_TL_L_2_8 [0, 1, 2, 3, 4, 5, 6, 7, 8] nP_TL_L_2_8 (sP_TL_L_2_8 g ad T L L_13) (fun H locs hH => ?_)
      refine lv_iconst (v := 1) hx hb dX4_takeMeasure_40 (by decide) ?_
      have hf := Option.some.inj hf
      obtain ⟨h1, hf⟩ := Prod.mk.inj hf
      obtain ⟨h2, h3⟩ := Prod.mk.inj hf
      subst h1
      subst h2
      subst h3
      exact retI C hH (by decide) dX4_takeMeasure_41
    · have hf := if_n hf c_12
      refine lv_iconst (v := 0) hx hb dX4_takeMeasure_32 (by decide) ?_
      have hf := Option.some.inj hf
      obtain ⟨h1, hf⟩ := Prod.mk.inj hf
      obtain ⟨h2, h3⟩ := Prod.mk.inj hf
      subst h1
      subst h2
      subst h3
      exact retI C hH (by decide) dX4_takeMeasure_33
  refine lv_iload_n hx hb dX4_takeMeasure_0 rfl (lv_at hl 2 rfl) ?_
  refine lv_iconst (v := 0) hx hb dX4_takeMeasure_1 (by decide) ?_
  refine lv_iconst (v := 3) hx hb dX4_takeMeasure_2 (by decide) ?_
  obtain ⟨r_15, hc_16, hf⟩ := bind_inv hf
  refine aftPI (runSN (host := RX5) C hE hA hH [] rfl rfl (kX5_within l g ad _ x3 (0 : Int32) (3 : Int32) r_15  hc_16) (hE.2.2.2.2.2.2.2.1) tw_4_15 tw_1_2 tw_4_16 hdX5_within rfl rfl ⟨Nat.le_of_ble_eq_true rfl, Nat.le_of_ble_eq_true rfl⟩ rfl hl.1 (rest := []) rfl (Nat.le_of_ble_eq_true rfl) dX4_takeMeasure_3 ⟨Nat.zero_le _, Nat.zero_le _⟩) ?_
  refine lv_if_eq (tgt := 26) hx hb dX4_takeMeasure_6 (by decide) (fun c_17 => ?_) (fun c_17 => ?_)
  · have hf := if_p hf c_17
    refine lv_iconst (v := (-1)) hx hb dX4_takeMeasure_26 (by decide) ?_
    exact j_27 x3 (-1 : Int32) T L _ _ ls hf hH (lv_sub hl [1, 2] rfl)
  · have hf := if_n hf c_17
    refine lv_aload_n hx hb dX4_takeMeasure_9 rfl (lv_at hl 0 rfl) ?_
    refine va_getsN (host := RX5) hx hb hE.2.1.2.1.1 hH.2.2 hown (va_Nw.use rfl (hE.2.2.2.2.2.2.2.2.1)) (fun _ h9 => h9) dX4_takeMeasure_10 ?_
    refine lv_iload_n hx hb dX4_takeMeasure_13 rfl (lv_at hl 2 rfl) ?_
    obtain ⟨hi_18, hf⟩ := grd_inv hf
    refine va_ti hx hb hE.2.1.2.1.2 hH.2.2 (inb_in hi_18) rfl dX4_takeMeasure_14 ?_
    refine va_getsN (host := RX5) hx hb hE.2.1.2.2.1.1 hH.2.2 hown (va_Nw.use rfl (hE.2.2.2.2.2.2.2.2.2.1)) (fun _ h9 => h9) dX4_takeMeasure_15 ?_
    refine lv_iload_n hx hb dX4_takeMeasure_18 rfl (lv_at hl 2 rfl) ?_
    obtain ⟨hi_19, hf⟩ := grd_inv hf
    refine va_ti hx hb hE.2.1.2.2.1.2 hH.2.2 (inb_in hi_19) rfl dX4_takeMeasure_19 ?_
    obtain ⟨r_20, T_21, hc_22, hf⟩ := bind2_inv hf
    refine aftI (runV C hE hA hH [0, 1] nC_TL_T_0_1 (sC_TL_T_0_1 g ad T L) (kX3_takeNumber l g (fun k => ad (0 + k)) _ T (tabL x3.toNatClampNeg) (tabM x3.toNatClampNeg) r_20 T_21  hc_22) tw_30_16 tw_30_17 tw_30_18 tw_1_22 tw_30_19 hdX3_takeNumber 0 rfl rfl rfl rfl ⟨Nat.le_of_ble_eq_true rfl, Nat.le_of_ble_eq_true rfl⟩ rfl hl.1 (rest := []) rfl (Nat.le_of_ble_eq_true rfl) dX4_takeMeasure_20 ⟨Nat.zero_le _, Nat.zero_le _⟩) hA hH [0, 1] [2, 3, 4, 5, 6, 7, 8] (sC_TL_T_0_1 g ad T L) (sR_TL_T_0_1 g ad T L) nR_TL_T_0_1 dj_TL_T_0_1 [7, 8, 0, 1, 2, 3, 4, 5, 6] nP_TL_T_0_1 (sP_TL_T_0_1 g ad T L T_21) (fun H locs hH => ?_)
    refine lv_goto (tgt := 27) hx hb dX4_takeMeasure_23 (by decide) ?_
    exact j_27 x3 r_20 T_21 L _ _ ls hf hH (lv_sub hl [1, 2] rfl)
def fX4_takeSea (T : M2) (L : M2) : Option (Int32 × M2 × M2) := bind2 (fX3_takeNumber (0 : Int32) (27 : Int32) T) (fun (r_11 : Int32) (T_12 : M2) => (if 0 ≤ r_11 then bind2 (fX3_takeNumber (0 : Int32) (12 : Int32) T_12) (fun (r_15 : Int32) (T_16 : M2) => (if 0 ≤ r_15 then grd (inb r_11 28) (letb (st2 L 1 (upd (L 1) r_11.toNatClampNeg r_15)) (fun L_20 : M2 => some ((1 : Int32), T_16, L_20))) else some ((0 : Int32), T_16, L))) else some ((0 : Int32), T_12, L)))
def rmX4_takeSea : Room := { frames := 3, cells := 0, slots := 0, locals := 64 }
theorem hdX4_takeSea : yX4_takeSea.cls = yX4_takeSea.cls ∧ yX4_takeSea.cls ≠ "java/lang/invoke/MethodHandle" ∧ yX4_takeSea.cls ≠ "java/lang/invoke/VarHandle" ∧ (parseMethodDescriptor yX4_takeSea.desc).map (fun d => d.parameters.length) = some 2 := by decide +kernel
set_option maxHeartbeats 4000000 in
set_option maxRecDepth 100000 in
theorem kX4_takeSea (l : Launch) (g : Gl) (ad : Nat → Nat) (sz : Nat) (T : M2) (L : M2)  (r : Int32) (T' : M2) (L' : M2)  (hf : fX4_takeSea T L = some (r, T', L')) : MetI l yX4_takeSea (Cond.code yX4_takeSea cX4_takeSea 4 (some .boolean) :: wsL_law) rmX4_takeSea [.ref (ad 0), .ref (ad 2)] g (wTL g ad T L) sz r (wTL g ad T' L') := by
  refine openI (by decide +kernel) (Nat.le_of_ble_eq_true rfl) ?_
  intro p e s m args below meth c A C hE hA hH ls hl
  have hl : lv_has ls 4 [(0, .ref (ad 0)), (1, .ref (ad 2))] := hl
  have C : Cx p s m args meth c cX4_takeSea 4 (some .boolean) RX4 := C
  obtain ⟨hx, hb, hml, hown, hT, hr, hlk⟩ := id C
  rw [fX4_takeSea] at hf
  refine lv_aload_n hx hb dX4_takeSea_0 rfl (lv_at hl 0 rfl) ?_
  refine lv_iconst (v := 0) hx hb dX4_takeSea_1 (by decide) ?_
  refine lv_bipush (v := 27) hx hb dX4_takeSea_2 (by decide) ?_
  obtain ⟨r_11, T_12, hc_13, hf⟩ := bind2_inv hf
  refine aftI (runV C hE hA hH [0, 1] nC_TL_T_0_1 (sC_TL_T_0_1 g ad T L) (kX3_takeNumber l g (fun k => ad (0 + k)) _ T (0 : Int32) (27 : Int32) r_11 T_12  hc_13) tw_30_16 tw_30_17 tw_30_18 tw_1_22 tw_30_19 hdX3_takeNumber 0 rfl rfl rfl rfl ⟨Nat.le_of_ble_eq_true rfl, Nat.le_of_ble_eq_true rfl⟩ rfl hl.1 (rest := []) rfl (Nat.le_of_ble_eq_true rfl) dX4_takeSea_4 ⟨Nat.zero_le _, Nat.zero_le _⟩) hA hH [0, 1] [2, 3, 4, 5, 6, 7, 8] (sC_TL_T_0_1 g ad T L) (sR_TL_T_0_1 g ad T L) nR_TL_T_0_1 dj_TL_T_0_1 [7, 8, 0, 1, 2, 3, 4, 5, 6] nP_TL_T_0_1 (sP_TL_T_0_1 g ad T L T_12) (fun H locs hH => ?_)
  refine lv_istore_n (lv' := [(2, .int r_11), (0, .ref (ad 0)), (1, .ref (ad 2))]) hx hb dX4_takeSea_7 rfl hl (by decide) rfl (fun ls hl => ?_)
  refine lv_iload_n hx hb dX4_takeSea_8 rfl (lv_at hl 0 rfl) ?_
  refine lv_if_ge (tgt := 14) hx hb dX4_takeSea_9 (by decide) (fun c_14 => ?_) (fun c_14 => ?_)
  · have hf := if_p hf c_14
    refine lv_aload_n hx hb dX4_takeSea_14 rfl (lv_at hl 1 rfl) ?_
    refine lv_iconst (v := 0) hx hb dX4_takeSea_15 (by decide) ?_
    refine lv_bipush (v := 12) hx hb dX4_takeSea_16 (by decide) ?_
    obtain ⟨r_15, T_16, hc_17, hf⟩ := bind2_inv hf
    refine aftI (runV C hE hA hH [0, 1] nC_TL_T_0_1 (sC_TL_T_0_1 g ad T_12 L) (kX3_takeNumber l g (fun k => ad (0 + k)) _ T_12 (0 : Int32) (12 : Int32) r_15 T_16  hc_17) tw_30_16 tw_30_17 tw_30_18 tw_1_22 tw_30_19 hdX3_takeNumber 0 rfl rfl rfl rfl ⟨Nat.le_of_ble_eq_true rfl, Nat.le_of_ble_eq_true rfl⟩ rfl hl.1 (rest := []) rfl (Nat.le_of_ble_eq_true rfl) dX4_takeSea_18 ⟨Nat.zero_le _, Nat.zero_le _⟩) hA hH [0, 1] [2, 3, 4, 5, 6, 7, 8] (sC_TL_T_0_1 g ad T_12 L) (sR_TL_T_0_1 g ad T_12 L) nR_TL_T_0_1 dj_TL_T_0_1 [7, 8, 0, 1, 2, 3, 4, 5, 6] nP_TL_T_0_1 (sP_TL_T_0_1 g ad T_12 L T_16) (fun H locs hH => ?_)
    refine lv_istore_n (lv' := [(3, .int r_15), (2, .int r_11), (0, .ref (ad 0)), (1, .ref (ad 2))]) hx hb dX4_takeSea_21 rfl hl (by decide) rfl (fun ls hl => ?_)
    refine lv_iload_n hx hb dX4_takeSea_22 rfl (lv_at hl 0 rfl) ?_
    refine lv_if_ge (tgt := 28) hx hb dX4_takeSea_23 (by decide) (fun c_18 => ?_) (fun c_18 => ?_)
    · have hf := if_p hf c_18
      refine lv_aload_n hx hb dX4_takeSea_28 rfl (lv_at hl 3 rfl) ?_
      refine gf_RX4_109 C hE hH 2 rfl rfl dX4_takeSea_29 ?_
      refine lv_iload_n hx hb dX4_takeSea_32 rfl (lv_at hl 1 rfl) ?_
      refine lv_iload_n hx hb dX4_takeSea_33 rfl (lv_at hl 0 rfl) ?_
      obtain ⟨hi_19, hf⟩ := grd_inv hf
      refine xiast C hE hH 3 rfl hi_19 (fun q : M2 => wTL g ad T_16 q) (st2 L 1 (upd (L 1) r_11.toNatClampNeg r_15)) rfl dX4_takeSea_34 (fun L_20 eL_20 H locs hH => ?_)
      have hf := letb_at hf L_20 eL_20
      refine lv_iconst (v := 1) hx hb dX4_takeSea_35 (by decide) ?_
      have hf := Option.some.inj hf
      obtain ⟨h1, hf⟩ := Prod.mk.inj hf
      obtain ⟨h2, h3⟩ := Prod.mk.inj hf
      subst h1
      subst h2
      subst h3
      exact retI C hH (by decide) dX4_takeSea_36
    · have hf := if_n hf c_18
      refine lv_iconst (v := 0) hx hb dX4_takeSea_26 (by decide) ?_
      have hf := Option.some.inj hf
      obtain ⟨h1, hf⟩ := Prod.mk.inj hf
      obtain ⟨h2, h3⟩ := Prod.mk.inj hf
      subst h1
      subst h2
      subst h3
      exact retI C hH (by decide) dX4_takeSea_27
  · have hf := if_n hf c_14
    refine lv_iconst (v := 0) hx hb dX4_takeSea_12 (by decide) ?_
    have hf := Option.some.inj hf
    obtain ⟨h1, hf⟩ := Prod.mk.inj hf
    obtain ⟨h2, h3⟩ := Prod.mk.inj hf
    subst h1
    subst h2
    subst h3
    exact retI C hH (by decide) dX4_takeSea_13
def fX4_takeKnownWords_c56  (y2 : Int32) (y3 : Int32) (T : M2) (L : M2) : Option (Int32 × M2 × M2) := bind2 (fX1_putWords y2 y3 L) (fun (r_13 : Int32) (L_14 : M2) => some ((1 : Int32), T, L_14))
def fX4_takeKnownWords_c41  (T : M2) (L : M2) : Option (Int32 × M2 × M2) := some ((0 : Int32), T, L)
def fX4_takeKnownWords_c27 (k_5 : Int32 → Int32 → Int32 → M2 → M2 → Option (Int32 × M2 × M2)) (y2 : Int32) (y3 : Int32) (y4 : Int32) (T : M2) (L : M2) : Option (Int32 × M2 × M2) := bind2 (fX3_takeNumber (0 : Int32) (8 : Int32) T) (fun (r_16 : Int32) (T_17 : M2) => (if 0 ≤ r_16 then letb (y3 ||| ((1 : Int32) <<< (r_16 &&& 31))) (fun v_20 : Int32 => letb (y4 + (1 : Int32)) (fun v_21 : Int32 => k_5 y2 v_20 v_21 T_17 L)) else fX4_takeKnownWords_c41  T_17 L))
def fX4_takeKnownWords_c24  (y2 : Int32) (y3 : Int32) (T : M2) (L : M2) : Option (Int32 × M2 × M2) := fX4_takeKnownWords_c56  y2 y3 T L
def fX4_takeKnownWords_c5  : Nat → Int32 → Int32 → Int32 → M2 → M2 → Option (Int32 × M2 × M2)
  | 0, _, _, _, _, _ => none
  | n + 1, y2, y3, y4, T, L => (if (4 : Int32) ≤ y4 then fX4_takeKnownWords_c56  y2 y3 T L else (if y4 ≤ 0 then fX4_takeKnownWords_c27 (fX4_takeKnownWords_c5 n) y2 y3 y4 T L else (if (T 0 1) = (2 : Int32) then fX4_takeKnownWords_c27 (fX4_takeKnownWords_c5 n) y2 y3 y4 T L else fX4_takeKnownWords_c24  y2 y3 T L)))
def fX4_takeKnownWords (x3 : Int32) (T : M2) (L : M2) : Option (Int32 × M2 × M2) := fX4_takeKnownWords_c5  FU x3 (0 : Int32) (0 : Int32) T L
def rmX4_takeKnownWords : Room := { frames := 3, cells := 0, slots := 0, locals := 64 }
theorem hdX4_takeKnownWords : yX4_takeKnownWords.cls = yX4_takeKnownWords.cls ∧ yX4_takeKnownWords.cls ≠ "java/lang/invoke/MethodHandle" ∧ yX4_takeKnownWords.cls ≠ "java/lang/invoke/VarHandle" ∧ (parseMethodDescriptor yX4_takeKnownWords.desc).map (fun d => d.parameters.length) = some 3 := by decide +kernel
set_option maxHeartbeats 4000000 in
set_option maxRecDepth 100000 in
theorem kX4_takeKnownWords (l : Launch) (g : Gl) (ad : Nat → Nat) (sz : Nat) (T : M2) (L : M2) (x3 : Int32) (r : Int32) (T' : M2) (L' : M2)  (hf : fX4_takeKnownWords x3 T L = some (r, T', L')) : MetI l yX4_takeKnownWords (Cond.code yX4_takeKnownWords cX4_takeKnownWords 6 (some .boolean) :: wsL_law) rmX4_takeKnownWords [.ref (ad 0), .ref (ad 2), .int x3] g (wTL g ad T L) sz r (wTL g ad T' L') := by
  refine openI (by decide +kernel) (Nat.le_of_ble_eq_true rfl) ?_
  intro p e s m args below meth c A C hE hA hH ls hl
  have hl : lv_has ls 6 [(0, .ref (ad 0)), (1, .ref (ad 2)), (2, .int x3)] := hl
  have C : Cx p s m args meth c cX4_takeKnownWords 6 (some .boolean) RX4 := C
  obtain ⟨hx, hb, hml, hown, hT, hr, hlk⟩ := id C
  rw [fX4_takeKnownWords] at hf
  have lp_5 : ∀ (n_5 : Nat) (y2 : Int32) (y3 : Int32) (y4 : Int32) (T : M2) (L : M2) (H : Heap) (locs : List Loc) (ls : Array Slot), fX4_takeKnownWords_c5  n_5 y2 y3 y4 T L = some (r, T', L') → Hp g A s H locs (wTL g ad T L) → lv_has ls 6 [(0, .ref (ad 0)), (1, .ref (ad 2)), (2, .int y2), (3, .int y3), (4, .int y4)] → W p l e rmX4_takeKnownWords s m args below meth c H locs 0 0 (QI g A below args s r (wTL g ad T' L')) (F0 m 5 ls []) := by
    intro n_5
    induction n_5 with
    | zero =>
      intro y2 y3 y4 T L H locs  ls hf hH hl
      rw [fX4_takeKnownWords_c5] at hf
      cases hf
    | succ n_5 ih_5 =>
      intro y2 y3 y4 T L H locs  ls hf hH hl
      rw [fX4_takeKnownWords_c5] at hf
      have j_56 : ∀ (y2 : Int32) (y3 : Int32) (T : M2) (L : M2) (H : Heap) (locs : List Loc) (ls : Array Slot), fX4_takeKnownWords_c56  y2 y3 T L = some (r, T', L') → Hp g A s H locs (wTL g ad T L) → lv_has ls 6 [(1, .ref (ad 2)), (2, .int y2), (3, .int y3)] → W p l e rmX4_takeKnownWords s m args below meth c H locs 0 0 (QI g A below args s r (wTL g ad T' L')) (F0 m 56 ls []) := by
        intro y2 y3 T L H locs  ls hf hH hl
        rw [fX4_takeKnownWords_c56] at hf
        refine lv_aload_n hx hb dX4_takeKnownWords_56 rfl (lv_at hl 0 rfl) ?_
        refine lv_iload_n hx hb dX4_takeKnownWords_57 rfl (lv_at hl 1 rfl) ?_
        refine lv_iload_n hx hb dX4_takeKnownWords_58 rfl (lv_at hl 2 rfl) ?_
        obtain ⟨r_13, L_14, hc_15, hf⟩ := bind2_inv hf
        refine aftI (runV C hE hA hH [2, 3, 4, 5, 6, 7, 8] nC_TL_L_2_8 (sC_TL_L_2_8 g ad T L) (kX1_putWords l g (fun k => ad (2 + k)) _ L y2 y3 r_13 L_14  hc_15) tw_30_20 tw_12_9 tw_12_10 tw_1_15 tw_12_11 hdX1_putWords 2 rfl rfl rfl rfl ⟨Nat.le_of_ble_eq_true rfl, Nat.le_of_ble_eq_true rfl⟩ rfl hl.1 (rest := []) rfl (Nat.le_of_ble_eq_true rfl) dX4_takeKnownWords_59 ⟨Nat.zero_le _, Nat.zero_le _⟩) hA hH [2, 3, 4, 5, 6, 7, 8] [0, 1] (sC_TL_L_2_8 g ad T L) (sR_TL_L_2_8 g ad T L) nR_TL_L_2_8 dj_TL_L_2_8 [0, 1, 2, 3, 4, 5, 6, 7, 8] nP_TL_L_2_8 (sP_TL_L_2_8 g ad T L L_14) (fun H locs hH => ?_)
        refine lv_pop hx hb dX4_takeKnownWords_62 rfl ?_
        refine lv_iconst (v := 1) hx hb dX4_takeKnownWords_63 (by decide) ?_
        have hf := Option.some.inj hf
        obtain ⟨h1, hf⟩ := Prod.mk.inj hf
        obtain ⟨h2, h3⟩ := Prod.mk.inj hf
        subst h1
        subst h2
        subst h3
        exact retI C hH (by decide) dX4_takeKnownWords_64
      have j_27 : ∀ (y2 : Int32) (y3 : Int32) (y4 : Int32) (T : M2) (L : M2) (H : Heap) (locs : List Loc) (ls : Array Slot), fX4_takeKnownWords_c27 (fX4_takeKnownWords_c5 n_5) y2 y3 y4 T L = some (r, T', L') → Hp g A s H locs (wTL g ad T L) → lv_has ls 6 [(0, .ref (ad 0)), (1, .ref (ad 2)), (2, .int y2), (3, .int y3), (4, .int y4)] → W p l e rmX4_takeKnownWords s m args below meth c H locs 0 0 (QI g A below args s r (wTL g ad T' L')) (F0 m 27 ls []) := by
        intro y2 y3 y4 T L H locs  ls hf hH hl
        rw [fX4_takeKnownWords_c27] at hf
        have j_41 : ∀ (T : M2) (L : M2) (H : Heap) (locs : List Loc) (ls : Array Slot), fX4_takeKnownWords_c41  T L = some (r, T', L') → Hp g A s H locs (wTL g ad T L) → lv_has ls 6 [] → W p l e rmX4_takeKnownWords s m args below meth c H locs 0 0 (QI g A below args s r (wTL g ad T' L')) (F0 m 41 ls []) := by
          intro T L H locs  ls hf hH hl
          rw [fX4_takeKnownWords_c41] at hf
          refine lv_iconst (v := 0) hx hb dX4_takeKnownWords_41 (by decide) ?_
          have hf := Option.some.inj hf
          obtain ⟨h1, hf⟩ := Prod.mk.inj hf
          obtain ⟨h2, h3⟩ := Prod.mk.inj hf
          subst h1
          subst h2
          subst h3
          exact retI C hH (by decide) dX4_takeKnownWords_42
        refine lv_aload_n hx hb dX4_takeKnownWords_27 rfl (lv_at hl 0 rfl) ?_
        refine lv_iconst (v := 0) hx hb dX4_takeKnownWords_28 (by decide) ?_
        refine lv_bipush (v := 8) hx hb dX4_takeKnownWords_29 (by decide) ?_
        obtain ⟨r_16, T_17, hc_18, hf⟩ := bind2_inv hf
        refine aftI (runV C hE hA hH [0, 1] nC_TL_T_0_1 (sC_TL_T_0_1 g ad T L) (kX3_takeNumber l g (fun k => ad (0 + k)) _ T (0 : Int32) (8 : Int32) r_16 T_17  hc_18) tw_30_16 tw_30_17 tw_30_18 tw_1_22 tw_30_19 hdX3_takeNumber 0 rfl rfl rfl rfl ⟨Nat.le_of_ble_eq_true rfl, Nat.le_of_ble_eq_true rfl⟩ rfl hl.1 (rest := []) rfl (Nat.le_of_ble_eq_true rfl) dX4_takeKnownWords_31 ⟨Nat.zero_le _, Nat.zero_le _⟩) hA hH [0, 1] [2, 3, 4, 5, 6, 7, 8] (sC_TL_T_0_1 g ad T L) (sR_TL_T_0_1 g ad T L) nR_TL_T_0_1 dj_TL_T_0_1 [7, 8, 0, 1, 2, 3, 4, 5, 6] nP_TL_T_0_1 (sP_TL_T_0_1 g ad T L T_17) (fun H locs hH => ?_)
        refine lv_istore (lv' := [(5, .int r_16), (0, .ref (ad 0)), (1, .ref (ad 2)), (2, .int y2), (3, .int y3), (4, .int y4)]) hx hb dX4_takeKnownWords_34 hl (by decide) rfl (fun ls hl => ?_)
        refine lv_iload hx hb dX4_takeKnownWords_36 (lv_at hl 0 rfl) ?_
        refine lv_if_ge (tgt := 43) hx hb dX4_takeKnownWords_38 (by decide) (fun c_19 => ?_) (fun c_19 => ?_)
        · have hf := if_p hf c_19
          refine lv_iload_n hx hb dX4_takeKnownWords_43 rfl (lv_at hl 4 rfl) ?_
          refine lv_iconst (v := 1) hx hb dX4_takeKnownWords_44 (by decide) ?_
          refine lv_iload hx hb dX4_takeKnownWords_45 (lv_at hl 0 rfl) ?_
          refine lv_ishl hx hb dX4_takeKnownWords_47 ?_
          refine lv_ior hx hb dX4_takeKnownWords_48 ?_
          refine lv_topi (fun v_20 ev_20 => ?_)
          have hf := letb_at hf v_20 ev_20
          refine lv_istore_n (lv' := [(3, .int v_20), (5, .int r_16), (0, .ref (ad 0)), (1, .ref (ad 2)), (2, .int y2), (4, .int y4)]) hx hb dX4_takeKnownWords_49 rfl hl (by decide) rfl (fun ls hl => ?_)
          obtain ⟨v_21, ev_21⟩ : ∃ z : Int32, z = y4 + (1 : Int32) := ⟨_, rfl⟩
          have hf := letb_at hf v_21 ev_21
          refine lv_iinc (v := v_21) (lv' := [(4, .int v_21), (3, .int v_20), (5, .int r_16), (0, .ref (ad 0)), (1, .ref (ad 2)), (2, .int y2)]) hx hb dX4_takeKnownWords_50 hl (k := 5) rfl (by rw [ev_21]; rfl) (by decide) rfl (fun ls hl => ?_)
          refine lv_goto (tgt := 5) hx hb dX4_takeKnownWords_53 (by decide) ?_
          exact ih_5 y2 v_20 v_21 T_17 L _ _ ls hf hH (lv_sub hl [3, 4, 5, 1, 0] rfl)
        · have hf := if_n hf c_19
          exact j_41 T_17 L _ _ ls hf hH (lv_sub hl [] rfl)
      have j_24 : ∀ (y2 : Int32) (y3 : Int32) (T : M2) (L : M2) (H : Heap) (locs : List Loc) (ls : Array Slot), fX4_takeKnownWords_c24  y2 y3 T L = some (r, T', L') → Hp g A s H locs (wTL g ad T L) → lv_has ls 6 [(1, .ref (ad 2)), (2, .int y2), (3, .int y3)] → W p l e rmX4_takeKnownWords s m args below meth c H locs 0 0 (QI g A below args s r (wTL g ad T' L')) (F0 m 24 ls []) := by
        intro y2 y3 T L H locs  ls hf hH hl
        rw [fX4_takeKnownWords_c24] at hf
        refine lv_goto (tgt := 56) hx hb dX4_takeKnownWords_24 (by decide) ?_
        exact j_56 y2 y3 T L _ _ ls hf hH (lv_sub hl [0, 1, 2] rfl)
      refine lv_iload hx hb dX4_takeKnownWords_5 (lv_at hl 4 rfl) ?_
      refine lv_iconst (v := 4) hx hb dX4_takeKnownWords_7 (by decide) ?_
      refine lv_icmp_ge (tgt := 56) hx hb dX4_takeKnownWords_8 (by decide) (fun c_22 => ?_) (fun c_22 => ?_)
      · have hf := if_p hf c_22
        exact j_56 y2 y3 T L _ _ ls hf hH (lv_sub hl [1, 2, 3] rfl)
      · have hf := if_n hf c_22
        refine lv_iload hx hb dX4_takeKnownWords_11 (lv_at hl 4 rfl) ?_
        refine lv_if_le (tgt := 27) hx hb dX4_takeKnownWords_13 (by decide) (fun c_23 => ?_) (fun c_23 => ?_)
        · have hf := if_p hf c_23
          exact j_27 y2 y3 y4 T L _ _ ls hf hH (lv_sub hl [0, 1, 2, 3, 4] rfl)
        · have hf := if_n hf c_23
          refine lv_aload_n hx hb dX4_takeKnownWords_16 rfl (lv_at hl 0 rfl) ?_
          refine gf_RX4_20 C hE hH 0 rfl rfl dX4_takeKnownWords_17 ?_
          refine lv_iconst (v := 2) hx hb dX4_takeKnownWords_20 (by decide) ?_
          refine lv_icmp_eq (tgt := 27) hx hb dX4_takeKnownWords_21 (by decide) (fun c_24 => ?_) (fun c_24 => ?_)
          · have hf := if_p hf c_24
            exact j_27 y2 y3 y4 T L _ _ ls hf hH (lv_sub hl [0, 1, 2, 3, 4] rfl)
          · have hf := if_n hf c_24
            exact j_24 y2 y3 T L _ _ ls hf hH (lv_sub hl [1, 2, 3] rfl)
  refine lv_iconst (v := 0) hx hb dX4_takeKnownWords_0 (by decide) ?_
  refine lv_istore_n (lv' := [(3, .int (0 : Int32)), (0, .ref (ad 0)), (1, .ref (ad 2)), (2, .int x3)]) hx hb dX4_takeKnownWords_1 rfl hl (by decide) rfl (fun ls hl => ?_)
  refine lv_iconst (v := 0) hx hb dX4_takeKnownWords_2 (by decide) ?_
  refine lv_istore (lv' := [(4, .int (0 : Int32)), (3, .int (0 : Int32)), (0, .ref (ad 0)), (1, .ref (ad 2)), (2, .int x3)]) hx hb dX4_takeKnownWords_3 hl (by decide) rfl (fun ls hl => ?_)
  exact lp_5 _ x3 (0 : Int32) (0 : Int32) T L _ _ ls hf hH (lv_sub hl [2, 3, 4, 1, 0] rfl)
def fX4_takeKeeper_c55  (z0 : Int32) (T : M2) (L : M2) : Option (Int32 × M2 × M2) := grd (isB z0) (some (z0, T, L))
def fX4_takeKeeper_c50  (T : M2) (L : M2) : Option (Int32 × M2 × M2) := fX4_takeKeeper_c55  (1 : Int32) T L
def fX4_takeKeeper_c32  (y3 : Int32) (T : M2) (L : M2) : Option (Int32 × M2 × M2) := bind2 (fX3_takeWord (7) T) (fun (r_23 : Int32) (T_24 : M2) => (if r_23 = 0 then fX4_takeKeeper_c50  T_24 L else bind3 (fX4_takeKnownWords y3 T_24 L) (fun (r_27 : Int32) (T_28 : M2) (L_29 : M2) => (if r_27 = 0 then fX4_takeKeeper_c55  (0 : Int32) T_28 L_29 else fX4_takeKeeper_c50  T_28 L_29))))
def fX4_takeKeeper (x3 : Int32) (T : M2) (L : M2) : Option (Int32 × M2 × M2) := bind2 (fX1_addKeeper x3 L) (fun (r_32 : Int32) (L_33 : M2) => (if 0 ≤ r_32 then (fX3_goToNextToken T).bind (fun (T_36 : M2) => bind2 (fX3_takeWord (6) T_36) (fun (r_38 : Int32) (T_39 : M2) => (if r_38 = 0 then fX4_takeKeeper_c32  r_32 T_39 L_33 else bind2 (fX1_putStand r_32 (1 : Int32) L_33) (fun (r_42 : Int32) (L_43 : M2) => fX4_takeKeeper_c32  r_32 T_39 L_43)))) else some ((0 : Int32), T, L_33)))
def rmX4_takeKeeper : Room := { frames := 6, cells := 0, slots := 0, locals := 128 }
theorem hdX4_takeKeeper : yX4_takeKeeper.cls = yX4_takeKeeper.cls ∧ yX4_takeKeeper.cls ≠ "java/lang/invoke/MethodHandle" ∧ yX4_takeKeeper.cls ≠ "java/lang/invoke/VarHandle" ∧ (parseMethodDescriptor yX4_takeKeeper.desc).map (fun d => d.parameters.length) = some 3 := by decide +kernel
set_option maxHeartbeats 4000000 in
set_option maxRecDepth 100000 in
theorem kX4_takeKeeper (l : Launch) (g : Gl) (ad : Nat → Nat) (sz : Nat) (T : M2) (L : M2) (x3 : Int32) (r : Int32) (T' : M2) (L' : M2)  (hf : fX4_takeKeeper x3 T L = some (r, T', L')) : MetI l yX4_takeKeeper (Cond.code yX4_takeKeeper cX4_takeKeeper 4 (some .boolean) :: wsL_law) rmX4_takeKeeper [.ref (ad 0), .ref (ad 2), .int x3] g (wTL g ad T L) sz r (wTL g ad T' L') := by
  refine openI (by decide +kernel) (Nat.le_of_ble_eq_true rfl) ?_
  intro p e s m args below meth c A C hE hA hH ls hl
  have hl : lv_has ls 4 [(0, .ref (ad 0)), (1, .ref (ad 2)), (2, .int x3)] := hl
  have C : Cx p s m args meth c cX4_takeKeeper 4 (some .boolean) RX4 := C
  obtain ⟨hx, hb, hml, hown, hT, hr, hlk⟩ := id C
  rw [fX4_takeKeeper] at hf
  have j_32 : ∀ (y3 : Int32) (T : M2) (L : M2) (H : Heap) (locs : List Loc) (ls : Array Slot), fX4_takeKeeper_c32  y3 T L = some (r, T', L') → Hp g A s H locs (wTL g ad T L) → lv_has ls 4 [(0, .ref (ad 0)), (1, .ref (ad 2)), (3, .int y3)] → W p l e rmX4_takeKeeper s m args below meth c H locs 0 0 (QI g A below args s r (wTL g ad T' L')) (F0 m 32 ls []) := by
    intro y3 T L H locs  ls hf hH hl
    rw [fX4_takeKeeper_c32] at hf
    have j_55 : ∀ (z0 : Int32) (T : M2) (L : M2) (H : Heap) (locs : List Loc) (ls : Array Slot), fX4_takeKeeper_c55  z0 T L = some (r, T', L') → Hp g A s H locs (wTL g ad T L) → lv_has ls 4 [] → W p l e rmX4_takeKeeper s m args below meth c H locs 0 0 (QI g A below args s r (wTL g ad T' L')) (F0 m 55 ls [.int z0]) := by
      intro z0 T L H locs  ls hf hH hl
      rw [fX4_takeKeeper_c55] at hf
      obtain ⟨hz, hf⟩ := grd_inv hf
      have hf := Option.some.inj hf
      obtain ⟨h1, hf⟩ := Prod.mk.inj hf
      obtain ⟨h2, h3⟩ := Prod.mk.inj hf
      subst h1
      subst h2
      subst h3
      exact retI C hH (isB_nar hz) dX4_takeKeeper_55
    have j_50 : ∀ (T : M2) (L : M2) (H : Heap) (locs : List Loc) (ls : Array Slot), fX4_takeKeeper_c50  T L = some (r, T', L') → Hp g A s H locs (wTL g ad T L) → lv_has ls 4 [] → W p l e rmX4_takeKeeper s m args below meth c H locs 0 0 (QI g A below args s r (wTL g ad T' L')) (F0 m 50 ls []) := by
      intro T L H locs  ls hf hH hl
      rw [fX4_takeKeeper_c50] at hf
      refine lv_iconst (v := 1) hx hb dX4_takeKeeper_50 (by decide) ?_
      refine lv_goto (tgt := 55) hx hb dX4_takeKeeper_51 (by decide) ?_
      exact j_55 (1 : Int32) T L _ _ ls hf hH (lv_sub hl [] rfl)
    refine lv_aload_n hx hb dX4_takeKeeper_32 rfl (lv_at hl 0 rfl) ?_
    refine va_ldcS hx hb hown (hE.2.2.2.2.2.2.2.2.2.2.2.2.2.2.2.2.2.1) dX4_takeKeeper_33 ?_
    obtain ⟨r_23, T_24, hc_25, hf⟩ := bind2_inv hf
    refine aftI (runV C hE hA hH [0, 1] nC_TL_T_0_1 (sC_TL_T_0_1 g ad T L) (kX3_takeWord l g (fun k => ad (0 + k)) _ T (7) r_23 T_24 (by decide) hc_25) tw_30_7 tw_30_8 tw_30_9 tw_1_22 tw_30_10 hdX3_takeWord 0 rfl rfl rfl rfl ⟨Nat.le_of_ble_eq_true rfl, Nat.le_of_ble_eq_true rfl⟩ rfl hl.1 (rest := []) rfl (Nat.le_of_ble_eq_true rfl) dX4_takeKeeper_35 ⟨Nat.zero_le _, Nat.zero_le _⟩) hA hH [0, 1] [2, 3, 4, 5, 6, 7, 8] (sC_TL_T_0_1 g ad T L) (sR_TL_T_0_1 g ad T L) nR_TL_T_0_1 dj_TL_T_0_1 [7, 8, 0, 1, 2, 3, 4, 5, 6] nP_TL_T_0_1 (sP_TL_T_0_1 g ad T L T_24) (fun H locs hH => ?_)
    refine lv_if_eq (tgt := 50) hx hb dX4_takeKeeper_38 (by decide) (fun c_26 => ?_) (fun c_26 => ?_)
    · have hf := if_p hf c_26
      exact j_50 T_24 L _ _ ls hf hH (lv_sub hl [] rfl)
    · have hf := if_n hf c_26
      refine lv_aload_n hx hb dX4_takeKeeper_41 rfl (lv_at hl 0 rfl) ?_
      refine lv_aload_n hx hb dX4_takeKeeper_42 rfl (lv_at hl 1 rfl) ?_
      refine lv_iload_n hx hb dX4_takeKeeper_43 rfl (lv_at hl 2 rfl) ?_
      obtain ⟨r_27, T_28, L_29, hc_30, hf⟩ := bind3_inv hf
      refine aftI (runS C hE hA hH [0, 1, 2, 3, 4, 5, 6, 7, 8] nC_TL_TL_0_8 (sC_TL_TL_0_8 g ad T_24 L) (kX4_takeKnownWords l g ad _ T_24 L y3 r_27 T_28 L_29  hc_30) tw_30_13 tw_30_14 tw_26_23 tw_30_15 hdX4_takeKnownWords rfl rfl ⟨Nat.le_of_ble_eq_true rfl, Nat.le_of_ble_eq_true rfl⟩ rfl hl.1 (rest := []) rfl (Nat.le_of_ble_eq_true rfl) dX4_takeKeeper_44 ⟨Nat.zero_le _, Nat.zero_le _⟩) hA hH [0, 1, 2, 3, 4, 5, 6, 7, 8] [] (sC_TL_TL_0_8 g ad T_24 L) (sR_TL_TL_0_8 g ad T_24 L) nR_TL_TL_0_8 dj_TL_TL_0_8 [0, 1, 2, 3, 4, 5, 6, 7, 8] nP_TL_TL_0_8 (sP_TL_TL_0_8 g ad T_24 L T_28 L_29) (fun H locs hH => ?_)
      refine lv_if_eq (tgt := 54) hx hb dX4_takeKeeper_47 (by decide) (fun c_31 => ?_) (fun c_31 => ?_)
      · have hf := if_p hf c_31
        refine lv_iconst (v := 0) hx hb dX4_takeKeeper_54 (by decide) ?_
        exact j_55 (0 : Int32) T_28 L_29 _ _ ls hf hH (lv_sub hl [] rfl)
      · have hf := if_n hf c_31
        exact j_50 T_28 L_29 _ _ ls hf hH (lv_sub hl [] rfl)
  refine lv_aload_n hx hb dX4_takeKeeper_0 rfl (lv_at hl 1 rfl) ?_
  refine lv_iload_n hx hb dX4_takeKeeper_1 rfl (lv_at hl 2 rfl) ?_
  obtain ⟨r_32, L_33, hc_34, hf⟩ := bind2_inv hf
  refine aftI (runV C hE hA hH [2, 3, 4, 5, 6, 7, 8] nC_TL_L_2_8 (sC_TL_L_2_8 g ad T L) (kX1_addKeeper l g (fun k => ad (2 + k)) _ L x3 r_32 L_33  hc_34) tw_30_5 tw_8_1 tw_8_2 tw_1_15 tw_8_3 hdX1_addKeeper 2 rfl rfl rfl rfl ⟨Nat.le_of_ble_eq_true rfl, Nat.le_of_ble_eq_true rfl⟩ rfl hl.1 (rest := []) rfl (Nat.le_of_ble_eq_true rfl) dX4_takeKeeper_2 ⟨Nat.zero_le _, Nat.zero_le _⟩) hA hH [2, 3, 4, 5, 6, 7, 8] [0, 1] (sC_TL_L_2_8 g ad T L) (sR_TL_L_2_8 g ad T L) nR_TL_L_2_8 dj_TL_L_2_8 [0, 1, 2, 3, 4, 5, 6, 7, 8] nP_TL_L_2_8 (sP_TL_L_2_8 g ad T L L_33) (fun H locs hH => ?_)
  refine lv_istore_n (lv' := [(3, .int r_32), (0, .ref (ad 0)), (1, .ref (ad 2)), (2, .int x3)]) hx hb dX4_takeKeeper_5 rfl hl (by decide) rfl (fun ls hl => ?_)
  refine lv_iload_n hx hb dX4_takeKeeper_6 rfl (lv_at hl 0 rfl) ?_
  refine lv_if_ge (tgt := 12) hx hb dX4_takeKeeper_7 (by decide) (fun c_35 => ?_) (fun c_35 => ?_)
  · have hf := if_p hf c_35
    refine lv_aload_n hx hb dX4_takeKeeper_12 rfl (lv_at hl 1 rfl) ?_
    obtain ⟨T_36, hc_37, hf⟩ := bind_inv hf
    refine aftV (runV C hE hA hH [0, 1] nC_TL_T_0_1 (sC_TL_T_0_1 g ad T L_33) (kX3_goToNextToken l g (fun k => ad (0 + k)) _ T T_36  hc_37) tw_30_6 tw_27_8 tw_27_9 tw_1_22 tw_27_10 hdX3_goToNextToken 0 rfl rfl rfl rfl ⟨Nat.le_of_ble_eq_true rfl, Nat.le_of_ble_eq_true rfl⟩ rfl hl.1 (rest := []) rfl (Nat.le_of_ble_eq_true rfl) dX4_takeKeeper_13 ⟨Nat.zero_le _, Nat.zero_le _⟩) hA hH [0, 1] [2, 3, 4, 5, 6, 7, 8] (sC_TL_T_0_1 g ad T L_33) (sR_TL_T_0_1 g ad T L_33) nR_TL_T_0_1 dj_TL_T_0_1 [7, 8, 0, 1, 2, 3, 4, 5, 6] nP_TL_T_0_1 (sP_TL_T_0_1 g ad T L_33 T_36) (fun H locs hH => ?_)
    refine lv_aload_n hx hb dX4_takeKeeper_16 rfl (lv_at hl 1 rfl) ?_
    refine va_ldcS hx hb hown (hE.2.2.2.2.2.2.2.2.2.2.2.2.2.2.2.2.1) dX4_takeKeeper_17 ?_
    obtain ⟨r_38, T_39, hc_40, hf⟩ := bind2_inv hf
    refine aftI (runV C hE hA hH [0, 1] nC_TL_T_0_1 (sC_TL_T_0_1 g ad T_36 L_33) (kX3_takeWord l g (fun k => ad (0 + k)) _ T_36 (6) r_38 T_39 (by decide) hc_40) tw_30_7 tw_30_8 tw_30_9 tw_1_22 tw_30_10 hdX3_takeWord 0 rfl rfl rfl rfl ⟨Nat.le_of_ble_eq_true rfl, Nat.le_of_ble_eq_true rfl⟩ rfl hl.1 (rest := []) rfl (Nat.le_of_ble_eq_true rfl) dX4_takeKeeper_19 ⟨Nat.zero_le _, Nat.zero_le _⟩) hA hH [0, 1] [2, 3, 4, 5, 6, 7, 8] (sC_TL_T_0_1 g ad T_36 L_33) (sR_TL_T_0_1 g ad T_36 L_33) nR_TL_T_0_1 dj_TL_T_0_1 [7, 8, 0, 1, 2, 3, 4, 5, 6] nP_TL_T_0_1 (sP_TL_T_0_1 g ad T_36 L_33 T_39) (fun H locs hH => ?_)
    refine lv_if_eq (tgt := 32) hx hb dX4_takeKeeper_22 (by decide) (fun c_41 => ?_) (fun c_41 => ?_)
    · have hf := if_p hf c_41
      exact j_32 r_32 T_39 L_33 _ _ ls hf hH (lv_sub hl [1, 2, 0] rfl)
    · have hf := if_n hf c_41
      refine lv_aload_n hx hb dX4_takeKeeper_25 rfl (lv_at hl 2 rfl) ?_
      refine lv_iload_n hx hb dX4_takeKeeper_26 rfl (lv_at hl 0 rfl) ?_
      refine lv_iconst (v := 1) hx hb dX4_takeKeeper_27 (by decide) ?_
      obtain ⟨r_42, L_43, hc_44, hf⟩ := bind2_inv hf
      refine aftI (runV C hE hA hH [2, 3, 4, 5, 6, 7, 8] nC_TL_L_2_8 (sC_TL_L_2_8 g ad T_39 L_33) (kX1_putStand l g (fun k => ad (2 + k)) _ L_33 r_32 (1 : Int32) r_42 L_43  hc_44) tw_30_12 tw_12_5 tw_12_6 tw_1_15 tw_12_7 hdX1_putStand 2 rfl rfl rfl rfl ⟨Nat.le_of_ble_eq_true rfl, Nat.le_of_ble_eq_true rfl⟩ rfl hl.1 (rest := []) rfl (Nat.le_of_ble_eq_true rfl) dX4_takeKeeper_28 ⟨Nat.zero_le _, Nat.zero_le _⟩) hA hH [2, 3, 4, 5, 6, 7, 8] [0, 1] (sC_TL_L_2_8 g ad T_39 L_33) (sR_TL_L_2_8 g ad T_39 L_33) nR_TL_L_2_8 dj_TL_L_2_8 [0, 1, 2, 3, 4, 5, 6, 7, 8] nP_TL_L_2_8 (sP_TL_L_2_8 g ad T_39 L_33 L_43) (fun H locs hH => ?_)
      refine lv_pop hx hb dX4_takeKeeper_31 rfl ?_
      exact j_32 r_32 T_39 L_43 _ _ ls hf hH (lv_sub hl [1, 2, 0] rfl)
  · have hf := if_n hf c_35
    refine lv_iconst (v := 0) hx hb dX4_takeKeeper_10 (by decide) ?_
    have hf := Option.some.inj hf
    obtain ⟨h1, hf⟩ := Prod.mk.inj hf
    obtain ⟨h2, h3⟩ := Prod.mk.inj hf
    subst h1
    subst h2
    subst h3
    exact retI C hH (by decide) dX4_takeKeeper_11
def fX4_takeItem_c86  (z0 : Int32) (T : M2) (L : M2) : Option (Int32 × M2 × M2) := grd (isB z0) (some (z0, T, L))
def fX4_takeItem_c85  (T : M2) (L : M2) : Option (Int32 × M2 × M2) := fX4_takeItem_c86  (0 : Int32) T L
def fX4_takeItem (T : M2) (L : M2) : Option (Int32 × M2 × M2) := (fX4_kindShown T).bind (fun (r_41 : Int32) => (if r_41 < 0 then bind2 (fX3_takeWord (8) T) (fun (r_44 : Int32) (T_45 : M2) => (if r_44 = 0 then bind2 (fX3_takeWord (9) T_45) (fun (r_48 : Int32) (T_49 : M2) => (if r_48 = 0 then bind2 (fX3_takeWord (10) T_49) (fun (r_52 : Int32) (T_53 : M2) => (if r_52 = 0 then bind2 (fX3_takeWord (11) T_53) (fun (r_56 : Int32) (T_57 : M2) => (if r_56 = 0 then fX4_takeItem_c85  T_57 L else bind3 (fX4_takeMeasure (2 : Int32) T_57 L) (fun (r_60 : Int32) (T_61 : M2) (L_62 : M2) => (if r_60 = 0 then fX4_takeItem_c85  T_61 L_62 else fX4_takeItem_c86  (1 : Int32) T_61 L_62)))) else bind3 (fX4_takeMeasure (1 : Int32) T_53 L) (fun (r_65 : Int32) (T_66 : M2) (L_67 : M2) => grd (isB r_65) (some (r_65, T_66, L_67))))) else bind3 (fX4_takeMeasure (0 : Int32) T_49 L) (fun (r_69 : Int32) (T_70 : M2) (L_71 : M2) => grd (isB r_69) (some (r_69, T_70, L_71))))) else bind3 (fX4_takeSea T_45 L) (fun (r_73 : Int32) (T_74 : M2) (L_75 : M2) => grd (isB r_73) (some (r_73, T_74, L_75))))) else bind3 (fX4_takeKeeper r_41 T L) (fun (r_77 : Int32) (T_78 : M2) (L_79 : M2) => grd (isB r_77) (some (r_77, T_78, L_79)))))
def rmX4_takeItem : Room := { frames := 7, cells := 0, slots := 0, locals := 151 }
theorem hdX4_takeItem : yX4_takeItem.cls = yX4_takeItem.cls ∧ yX4_takeItem.cls ≠ "java/lang/invoke/MethodHandle" ∧ yX4_takeItem.cls ≠ "java/lang/invoke/VarHandle" ∧ (parseMethodDescriptor yX4_takeItem.desc).map (fun d => d.parameters.length) = some 2 := by decide +kernel
set_option maxHeartbeats 4000000 in
set_option maxRecDepth 100000 in
theorem kX4_takeItem (l : Launch) (g : Gl) (ad : Nat → Nat) (sz : Nat) (T : M2) (L : M2)  (r : Int32) (T' : M2) (L' : M2)  (hf : fX4_takeItem T L = some (r, T', L')) : MetI l yX4_takeItem (Cond.code yX4_takeItem cX4_takeItem 3 (some .boolean) :: wsL_law) rmX4_takeItem [.ref (ad 0), .ref (ad 2)] g (wTL g ad T L) sz r (wTL g ad T' L') := by
  refine openI (by decide +kernel) (Nat.le_of_ble_eq_true rfl) ?_
  intro p e s m args below meth c A C hE hA hH ls hl
  have hl : lv_has ls 3 [(0, .ref (ad 0)), (1, .ref (ad 2))] := hl
  have C : Cx p s m args meth c cX4_takeItem 3 (some .boolean) RX4 := C
  obtain ⟨hx, hb, hml, hown, hT, hr, hlk⟩ := id C
  rw [fX4_takeItem] at hf
  have j_86 : ∀ (z0 : Int32) (T : M2) (L : M2) (H : Heap) (locs : List Loc) (ls : Array Slot), fX4_takeItem_c86  z0 T L = some (r, T', L') → Hp g A s H locs (wTL g ad T L) → lv_has ls 3 [] → W p l e rmX4_takeItem s m args below meth c H locs 0 0 (QI g A below args s r (wTL g ad T' L')) (F0 m 86 ls [.int z0]) := by
    intro z0 T L H locs  ls hf hH hl
    rw [fX4_takeItem_c86] at hf
    obtain ⟨hz, hf⟩ := grd_inv hf
    have hf := Option.some.inj hf
    obtain ⟨h1, hf⟩ := Prod.mk.inj hf
    obtain ⟨h2, h3⟩ := Prod.mk.inj hf
    subst h1
    subst h2
    subst h3
    exact retI C hH (isB_nar hz) dX4_takeItem_86
  have j_85 : ∀ (T : M2) (L : M2) (H : Heap) (locs : List Loc) (ls : Array Slot), fX4_takeItem_c85  T L = some (r, T', L') → Hp g A s H locs (wTL g ad T L) → lv_has ls 3 [] → W p l e rmX4_takeItem s m args below meth c H locs 0 0 (QI g A below args s r (wTL g ad T' L')) (F0 m 85 ls []) := by
    intro T L H locs  ls hf hH hl
    rw [fX4_takeItem_c85] at hf
    refine lv_iconst (v := 0) hx hb dX4_takeItem_85 (by decide) ?_
    exact j_86 (0 : Int32) T L _ _ ls hf hH (lv_sub hl [] rfl)
  refine lv_aload_n hx hb dX4_takeItem_0 rfl (lv_at hl 0 rfl) ?_
  obtain ⟨r_41, hc_42, hf⟩ := bind_inv hf
  refine aftPI (runS C hE hA hH [0, 1] nC_TL_T_0_1 (sC_TL_T_0_1 g ad T L) (kX4_kindShown l g (fun k => ad (0 + k)) _ T r_41  hc_42) tw_27_18 tw_27_19 tw_26_23 tw_27_20 hdX4_kindShown rfl rfl ⟨Nat.le_of_ble_eq_true rfl, Nat.le_of_ble_eq_true rfl⟩ rfl hl.1 (rest := []) rfl (Nat.le_of_ble_eq_true rfl) dX4_takeItem_1 ⟨Nat.zero_le _, Nat.zero_le _⟩) ?_
  refine lv_istore_n (lv' := [(2, .int r_41), (0, .ref (ad 0)), (1, .ref (ad 2))]) hx hb dX4_takeItem_4 rfl hl (by decide) rfl (fun ls hl => ?_)
  refine lv_iload_n hx hb dX4_takeItem_5 rfl (lv_at hl 0 rfl) ?_
  refine lv_if_lt (tgt := 16) hx hb dX4_takeItem_6 (by decide) (fun c_43 => ?_) (fun c_43 => ?_)
  · have hf := if_p hf c_43
    refine lv_aload_n hx hb dX4_takeItem_16 rfl (lv_at hl 1 rfl) ?_
    refine va_ldcS hx hb hown (hE.2.2.2.2.2.2.2.2.2.2.2.2.2.2.2.2.2.2.1) dX4_takeItem_17 ?_
    obtain ⟨r_44, T_45, hc_46, hf⟩ := bind2_inv hf
    refine aftI (runV C hE hA hH [0, 1] nC_TL_T_0_1 (sC_TL_T_0_1 g ad T L) (kX3_takeWord l g (fun k => ad (0 + k)) _ T (8) r_44 T_45 (by decide) hc_46) tw_30_7 tw_30_8 tw_30_9 tw_1_22 tw_30_10 hdX3_takeWord 0 rfl rfl rfl rfl ⟨Nat.le_of_ble_eq_true rfl, Nat.le_of_ble_eq_true rfl⟩ rfl hl.1 (rest := []) rfl (Nat.le_of_ble_eq_true rfl) dX4_takeItem_19 ⟨Nat.zero_le _, Nat.zero_le _⟩) hA hH [0, 1] [2, 3, 4, 5, 6, 7, 8] (sC_TL_T_0_1 g ad T L) (sR_TL_T_0_1 g ad T L) nR_TL_T_0_1 dj_TL_T_0_1 [7, 8, 0, 1, 2, 3, 4, 5, 6] nP_TL_T_0_1 (sP_TL_T_0_1 g ad T L T_45) (fun H locs hH => ?_)
    refine lv_if_eq (tgt := 31) hx hb dX4_takeItem_22 (by decide) (fun c_47 => ?_) (fun c_47 => ?_)
    · have hf := if_p hf c_47
      refine lv_aload_n hx hb dX4_takeItem_31 rfl (lv_at hl 1 rfl) ?_
      refine va_ldcS hx hb hown (hE.2.2.2.2.2.2.2.2.2.2.2.2.2.2.2.2.2.2.2.1) dX4_takeItem_32 ?_
      obtain ⟨r_48, T_49, hc_50, hf⟩ := bind2_inv hf
      refine aftI (runV C hE hA hH [0, 1] nC_TL_T_0_1 (sC_TL_T_0_1 g ad T_45 L) (kX3_takeWord l g (fun k => ad (0 + k)) _ T_45 (9) r_48 T_49 (by decide) hc_50) tw_30_7 tw_30_8 tw_30_9 tw_1_22 tw_30_10 hdX3_takeWord 0 rfl rfl rfl rfl ⟨Nat.le_of_ble_eq_true rfl, Nat.le_of_ble_eq_true rfl⟩ rfl hl.1 (rest := []) rfl (Nat.le_of_ble_eq_true rfl) dX4_takeItem_34 ⟨Nat.zero_le _, Nat.zero_le _⟩) hA hH [0, 1] [2, 3, 4, 5, 6, 7, 8] (sC_TL_T_0_1 g ad T_45 L) (sR_TL_T_0_1 g ad T_45 L) nR_TL_T_0_1 dj_TL_T_0_1 [7, 8, 0, 1, 2, 3, 4, 5, 6] nP_TL_T_0_1 (sP_TL_T_0_1 g ad T_45 L T_49) (fun H locs hH => ?_)
      refine lv_if_eq (tgt := 47) hx hb dX4_takeItem_37 (by decide) (fun c_51 => ?_) (fun c_51 => ?_)
      · have hf := if_p hf c_51
        refine lv_aload_n hx hb dX4_takeItem_47 rfl (lv_at hl 1 rfl) ?_
        refine va_ldcS hx hb hown (hE.2.2.2.2.2.2.2.2.2.2.2.2.2.2.2.2.2.2.2.2.1) dX4_takeItem_48 ?_
        obtain ⟨r_52, T_53, hc_54, hf⟩ := bind2_inv hf
        refine aftI (runV C hE hA hH [0, 1] nC_TL_T_0_1 (sC_TL_T_0_1 g ad T_49 L) (kX3_takeWord l g (fun k => ad (0 + k)) _ T_49 (10) r_52 T_53 (by decide) hc_54) tw_30_7 tw_30_8 tw_30_9 tw_1_22 tw_30_10 hdX3_takeWord 0 rfl rfl rfl rfl ⟨Nat.le_of_ble_eq_true rfl, Nat.le_of_ble_eq_true rfl⟩ rfl hl.1 (rest := []) rfl (Nat.le_of_ble_eq_true rfl) dX4_takeItem_50 ⟨Nat.zero_le _, Nat.zero_le _⟩) hA hH [0, 1] [2, 3, 4, 5, 6, 7, 8] (sC_TL_T_0_1 g ad T_49 L) (sR_TL_T_0_1 g ad T_49 L) nR_TL_T_0_1 dj_TL_T_0_1 [7, 8, 0, 1, 2, 3, 4, 5, 6] nP_TL_T_0_1 (sP_TL_T_0_1 g ad T_49 L T_53) (fun H locs hH => ?_)
        refine lv_if_eq (tgt := 63) hx hb dX4_takeItem_53 (by decide) (fun c_55 => ?_) (fun c_55 => ?_)
        · have hf := if_p hf c_55
          refine lv_aload_n hx hb dX4_takeItem_63 rfl (lv_at hl 1 rfl) ?_
          refine va_ldcS hx hb hown (hE.2.2.2.2.2.2.2.2.2.2.2.2.2.2.2.2.2.2.2.2.2) dX4_takeItem_64 ?_
          obtain ⟨r_56, T_57, hc_58, hf⟩ := bind2_inv hf
          refine aftI (runV C hE hA hH [0, 1] nC_TL_T_0_1 (sC_TL_T_0_1 g ad T_53 L) (kX3_takeWord l g (fun k => ad (0 + k)) _ T_53 (11) r_56 T_57 (by decide) hc_58) tw_30_7 tw_30_8 tw_30_9 tw_1_22 tw_30_10 hdX3_takeWord 0 rfl rfl rfl rfl ⟨Nat.le_of_ble_eq_true rfl, Nat.le_of_ble_eq_true rfl⟩ rfl hl.1 (rest := []) rfl (Nat.le_of_ble_eq_true rfl) dX4_takeItem_66 ⟨Nat.zero_le _, Nat.zero_le _⟩) hA hH [0, 1] [2, 3, 4, 5, 6, 7, 8] (sC_TL_T_0_1 g ad T_53 L) (sR_TL_T_0_1 g ad T_53 L) nR_TL_T_0_1 dj_TL_T_0_1 [7, 8, 0, 1, 2, 3, 4, 5, 6] nP_TL_T_0_1 (sP_TL_T_0_1 g ad T_53 L T_57) (fun H locs hH => ?_)
          refine lv_if_eq (tgt := 85) hx hb dX4_takeItem_69 (by decide) (fun c_59 => ?_) (fun c_59 => ?_)
          · have hf := if_p hf c_59
            exact j_85 T_57 L _ _ ls hf hH (lv_sub hl [] rfl)
          · have hf := if_n hf c_59
            refine lv_aload_n hx hb dX4_takeItem_72 rfl (lv_at hl 1 rfl) ?_
            refine lv_aload_n hx hb dX4_takeItem_73 rfl (lv_at hl 2 rfl) ?_
            refine lv_iconst (v := 2) hx hb dX4_takeItem_74 (by decide) ?_
            obtain ⟨r_60, T_61, L_62, hc_63, hf⟩ := bind3_inv hf
            refine aftI (runS C hE hA hH [0, 1, 2, 3, 4, 5, 6, 7, 8] nC_TL_TL_0_8 (sC_TL_TL_0_8 g ad T_57 L) (kX4_takeMeasure l g ad _ T_57 L (2 : Int32) r_60 T_61 L_62  hc_63) tw_31_1 tw_31_2 tw_26_23 tw_31_3 hdX4_takeMeasure rfl rfl ⟨Nat.le_of_ble_eq_true rfl, Nat.le_of_ble_eq_true rfl⟩ rfl hl.1 (rest := []) rfl (Nat.le_of_ble_eq_true rfl) dX4_takeItem_75 ⟨Nat.zero_le _, Nat.zero_le _⟩) hA hH [0, 1, 2, 3, 4, 5, 6, 7, 8] [] (sC_TL_TL_0_8 g ad T_57 L) (sR_TL_TL_0_8 g ad T_57 L) nR_TL_TL_0_8 dj_TL_TL_0_8 [0, 1, 2, 3, 4, 5, 6, 7, 8] nP_TL_TL_0_8 (sP_TL_TL_0_8 g ad T_57 L T_61 L_62) (fun H locs hH => ?_)
            refine lv_if_eq (tgt := 85) hx hb dX4_takeItem_78 (by decide) (fun c_64 => ?_) (fun c_64 => ?_)
            · have hf := if_p hf c_64
              exact j_85 T_61 L_62 _ _ ls hf hH (lv_sub hl [] rfl)
            · have hf := if_n hf c_64
              refine lv_iconst (v := 1) hx hb dX4_takeItem_81 (by decide) ?_
              refine lv_goto (tgt := 86) hx hb dX4_takeItem_82 (by decide) ?_
              exact j_86 (1 : Int32) T_61 L_62 _ _ ls hf hH (lv_sub hl [] rfl)
        · have hf := if_n hf c_55
          refine lv_aload_n hx hb dX4_takeItem_56 rfl (lv_at hl 1 rfl) ?_
          refine lv_aload_n hx hb dX4_takeItem_57 rfl (lv_at hl 2 rfl) ?_
          refine lv_iconst (v := 1) hx hb dX4_takeItem_58 (by decide) ?_
          obtain ⟨r_65, T_66, L_67, hc_68, hf⟩ := bind3_inv hf
          refine aftI (runS C hE hA hH [0, 1, 2, 3, 4, 5, 6, 7, 8] nC_TL_TL_0_8 (sC_TL_TL_0_8 g ad T_53 L) (kX4_takeMeasure l g ad _ T_53 L (1 : Int32) r_65 T_66 L_67  hc_68) tw_31_1 tw_31_2 tw_26_23 tw_31_3 hdX4_takeMeasure rfl rfl ⟨Nat.le_of_ble_eq_true rfl, Nat.le_of_ble_eq_true rfl⟩ rfl hl.1 (rest := []) rfl (Nat.le_of_ble_eq_true rfl) dX4_takeItem_59 ⟨Nat.zero_le _, Nat.zero_le _⟩) hA hH [0, 1, 2, 3, 4, 5, 6, 7, 8] [] (sC_TL_TL_0_8 g ad T_53 L) (sR_TL_TL_0_8 g ad T_53 L) nR_TL_TL_0_8 dj_TL_TL_0_8 [0, 1, 2, 3, 4, 5, 6, 7, 8] nP_TL_TL_0_8 (sP_TL_TL_0_8 g ad T_53 L T_66 L_67) (fun H locs hH => ?_)
          obtain ⟨hz, hf⟩ := grd_inv hf
          have hf := Option.some.inj hf
          obtain ⟨h1, hf⟩ := Prod.mk.inj hf
          obtain ⟨h2, h3⟩ := Prod.mk.inj hf
          subst h1
          subst h2
          subst h3
          exact retI C hH (isB_nar hz) dX4_takeItem_62
      · have hf := if_n hf c_51
        refine lv_aload_n hx hb dX4_takeItem_40 rfl (lv_at hl 1 rfl) ?_
        refine lv_aload_n hx hb dX4_takeItem_41 rfl (lv_at hl 2 rfl) ?_
        refine lv_iconst (v := 0) hx hb dX4_takeItem_42 (by decide) ?_
        obtain ⟨r_69, T_70, L_71, hc_72, hf⟩ := bind3_inv hf
        refine aftI (runS C hE hA hH [0, 1, 2, 3, 4, 5, 6, 7, 8] nC_TL_TL_0_8 (sC_TL_TL_0_8 g ad T_49 L) (kX4_takeMeasure l g ad _ T_49 L (0 : Int32) r_69 T_70 L_71  hc_72) tw_31_1 tw_31_2 tw_26_23 tw_31_3 hdX4_takeMeasure rfl rfl ⟨Nat.le_of_ble_eq_true rfl, Nat.le_of_ble_eq_true rfl⟩ rfl hl.1 (rest := []) rfl (Nat.le_of_ble_eq_true rfl) dX4_takeItem_43 ⟨Nat.zero_le _, Nat.zero_le _⟩) hA hH [0, 1, 2, 3, 4, 5, 6, 7, 8] [] (sC_TL_TL_0_8 g ad T_49 L) (sR_TL_TL_0_8 g ad T_49 L) nR_TL_TL_0_8 dj_TL_TL_0_8 [0, 1, 2, 3, 4, 5, 6, 7, 8] nP_TL_TL_0_8 (sP_TL_TL_0_8 g ad T_49 L T_70 L_71) (fun H locs hH => ?_)
        obtain ⟨hz, hf⟩ := grd_inv hf
        have hf := Option.some.inj hf
        obtain ⟨h1, hf⟩ := Prod.mk.inj hf
        obtain ⟨h2, h3⟩ := Prod.mk.inj hf
        subst h1
        subst h2
        subst h3
        exact retI C hH (isB_nar hz) dX4_takeItem_46
    · have hf := if_n hf c_47
      refine lv_aload_n hx hb dX4_takeItem_25 rfl (lv_at hl 1 rfl) ?_
      refine lv_aload_n hx hb dX4_takeItem_26 rfl (lv_at hl 2 rfl) ?_
      obtain ⟨r_73, T_74, L_75, hc_76, hf⟩ := bind3_inv hf
      refine aftI (runS C hE hA hH [0, 1, 2, 3, 4, 5, 6, 7, 8] nC_TL_TL_0_8 (sC_TL_TL_0_8 g ad T_45 L) (kX4_takeSea l g ad _ T_45 L r_73 T_74 L_75  hc_76) tw_30_21 tw_30_22 tw_26_23 tw_30_23 hdX4_takeSea rfl rfl ⟨Nat.le_of_ble_eq_true rfl, Nat.le_of_ble_eq_true rfl⟩ rfl hl.1 (rest := []) rfl (Nat.le_of_ble_eq_true rfl) dX4_takeItem_27 ⟨Nat.zero_le _, Nat.zero_le _⟩) hA hH [0, 1, 2, 3, 4, 5, 6, 7, 8] [] (sC_TL_TL_0_8 g ad T_45 L) (sR_TL_TL_0_8 g ad T_45 L) nR_TL_TL_0_8 dj_TL_TL_0_8 [0, 1, 2, 3, 4, 5, 6, 7, 8] nP_TL_TL_0_8 (sP_TL_TL_0_8 g ad T_45 L T_74 L_75) (fun H locs hH => ?_)
      obtain ⟨hz, hf⟩ := grd_inv hf
      have hf := Option.some.inj hf
      obtain ⟨h1, hf⟩ := Prod.mk.inj hf
      obtain ⟨h2, h3⟩ := Prod.mk.inj hf
      subst h1
      subst h2
      subst h3
      exact retI C hH (isB_nar hz) dX4_takeItem_30
  · have hf := if_n hf c_43
    refine lv_aload_n hx hb dX4_takeItem_9 rfl (lv_at hl 1 rfl) ?_
    refine lv_aload_n hx hb dX4_takeItem_10 rfl (lv_at hl 2 rfl) ?_
    refine lv_iload_n hx hb dX4_takeItem_11 rfl (lv_at hl 0 rfl) ?_
    obtain ⟨r_77, T_78, L_79, hc_80, hf⟩ := bind3_inv hf
    refine aftI (runS C hE hA hH [0, 1, 2, 3, 4, 5, 6, 7, 8] nC_TL_TL_0_8 (sC_TL_TL_0_8 g ad T L) (kX4_takeKeeper l g ad _ T L r_41 r_77 T_78 L_79  hc_80) tw_30_2 tw_30_3 tw_26_23 tw_30_4 hdX4_takeKeeper rfl rfl ⟨Nat.le_of_ble_eq_true rfl, Nat.le_of_ble_eq_true rfl⟩ rfl hl.1 (rest := []) rfl (Nat.le_of_ble_eq_true rfl) dX4_takeItem_12 ⟨Nat.zero_le _, Nat.zero_le _⟩) hA hH [0, 1, 2, 3, 4, 5, 6, 7, 8] [] (sC_TL_TL_0_8 g ad T L) (sR_TL_TL_0_8 g ad T L) nR_TL_TL_0_8 dj_TL_TL_0_8 [0, 1, 2, 3, 4, 5, 6, 7, 8] nP_TL_TL_0_8 (sP_TL_TL_0_8 g ad T L T_78 L_79) (fun H locs hH => ?_)
    obtain ⟨hz, hf⟩ := grd_inv hf
    have hf := Option.some.inj hf
    obtain ⟨h1, hf⟩ := Prod.mk.inj hf
    obtain ⟨h2, h3⟩ := Prod.mk.inj hf
    subst h1
    subst h2
    subst h3
    exact retI C hH (isB_nar hz) dX4_takeItem_15
def fX4_takeText_c53  (T : M2) (L : M2) : Option (Int32 × M2 × M2) := some ((-1 : Int32) - (T 0 2), T, L)
def fX4_takeText_c40  (T : M2) (L : M2) : Option (Int32 × M2 × M2) := fX4_takeText_c53  T L
def fX4_takeText_c30  (y2 : Int32) (T : M2) (L : M2) : Option (Int32 × M2 × M2) := some (y2, T, L)
def fX4_takeText_c20  (T : M2) (L : M2) : Option (Int32 × M2 × M2) := fX4_takeText_c53  T L
def fX4_takeText_c6  : Nat → Int32 → M2 → M2 → Option (Int32 × M2 × M2)
  | 0, _, _, _ => none
  | n + 1, y2, T, L => (if (120 : Int32) < y2 then fX4_takeText_c53  T L else bind3 (fX4_takeItem T L) (fun (r_15 : Int32) (T_16 : M2) (L_17 : M2) => (if r_15 = 0 then fX4_takeText_c20  T_16 L_17 else (if (T_16 0 1) = 0 then fX4_takeText_c30  y2 T_16 L_17 else (if (T_16 0 1) = (3 : Int32) then (fX3_goToNextToken T_16).bind (fun (T_22 : M2) => letb (y2 + (1 : Int32)) (fun v_24 : Int32 => fX4_takeText_c6 n v_24 T_22 L_17)) else fX4_takeText_c40  T_16 L_17)))))
def fX4_takeText (T : M2) (L : M2) : Option (Int32 × M2 × M2) := (fX3_goToFirstToken T).bind (fun (T_25 : M2) => fX4_takeText_c6  FU (1 : Int32) T_25 L)
def rmX4_takeText : Room := { frames := 8, cells := 0, slots := 0, locals := 173 }
theorem hdX4_takeText : yX4_takeText.cls = yX4_takeText.cls ∧ yX4_takeText.cls ≠ "java/lang/invoke/MethodHandle" ∧ yX4_takeText.cls ≠ "java/lang/invoke/VarHandle" ∧ (parseMethodDescriptor yX4_takeText.desc).map (fun d => d.parameters.length) = some 2 := by decide +kernel
set_option maxHeartbeats 4000000 in
set_option maxRecDepth 100000 in
theorem kX4_takeText (l : Launch) (g : Gl) (ad : Nat → Nat) (sz : Nat) (T : M2) (L : M2)  (r : Int32) (T' : M2) (L' : M2)  (hf : fX4_takeText T L = some (r, T', L')) : MetI l yX4_takeText (Cond.code yX4_takeText cX4_takeText 3 (some .int) :: wsL_law) rmX4_takeText [.ref (ad 0), .ref (ad 2)] g (wTL g ad T L) sz r (wTL g ad T' L') := by
  refine openI (by decide +kernel) (Nat.le_of_ble_eq_true rfl) ?_
  intro p e s m args below meth c A C hE hA hH ls hl
  have hl : lv_has ls 3 [(0, .ref (ad 0)), (1, .ref (ad 2))] := hl
  have C : Cx p s m args meth c cX4_takeText 3 (some .int) RX4 := C
  obtain ⟨hx, hb, hml, hown, hT, hr, hlk⟩ := id C
  rw [fX4_takeText] at hf
  have lp_6 : ∀ (n_6 : Nat) (y2 : Int32) (T : M2) (L : M2) (H : Heap) (locs : List Loc) (ls : Array Slot), fX4_takeText_c6  n_6 y2 T L = some (r, T', L') → Hp g A s H locs (wTL g ad T L) → lv_has ls 3 [(0, .ref (ad 0)), (1, .ref (ad 2)), (2, .int y2)] → W p l e rmX4_takeText s m args below meth c H locs 0 0 (QI g A below args s r (wTL g ad T' L')) (F0 m 6 ls []) := by
    intro n_6
    induction n_6 with
    | zero =>
      intro y2 T L H locs  ls hf hH hl
      rw [fX4_takeText_c6] at hf
      cases hf
    | succ n_6 ih_6 =>
      intro y2 T L H locs  ls hf hH hl
      rw [fX4_takeText_c6] at hf
      have j_53 : ∀ (T : M2) (L : M2) (H : Heap) (locs : List Loc) (ls : Array Slot), fX4_takeText_c53  T L = some (r, T', L') → Hp g A s H locs (wTL g ad T L) → lv_has ls 3 [(0, .ref (ad 0))] → W p l e rmX4_takeText s m args below meth c H locs 0 0 (QI g A below args s r (wTL g ad T' L')) (F0 m 53 ls []) := by
        intro T L H locs  ls hf hH hl
        rw [fX4_takeText_c53] at hf
        refine lv_iconst (v := (-1)) hx hb dX4_takeText_53 (by decide) ?_
        refine lv_aload_n hx hb dX4_takeText_54 rfl (lv_at hl 0 rfl) ?_
        refine gf_RX4_27 C hE hH 0 rfl rfl dX4_takeText_55 ?_
        refine lv_isub hx hb dX4_takeText_58 ?_
        have hf := Option.some.inj hf
        obtain ⟨h1, hf⟩ := Prod.mk.inj hf
        obtain ⟨h2, h3⟩ := Prod.mk.inj hf
        subst h1
        subst h2
        subst h3
        exact retI C hH rfl dX4_takeText_59
      have j_40 : ∀ (T : M2) (L : M2) (H : Heap) (locs : List Loc) (ls : Array Slot), fX4_takeText_c40  T L = some (r, T', L') → Hp g A s H locs (wTL g ad T L) → lv_has ls 3 [(0, .ref (ad 0))] → W p l e rmX4_takeText s m args below meth c H locs 0 0 (QI g A below args s r (wTL g ad T' L')) (F0 m 40 ls []) := by
        intro T L H locs  ls hf hH hl
        rw [fX4_takeText_c40] at hf
        refine lv_goto (tgt := 53) hx hb dX4_takeText_40 (by decide) ?_
        exact j_53 T L _ _ ls hf hH (lv_sub hl [0] rfl)
      have j_30 : ∀ (y2 : Int32) (T : M2) (L : M2) (H : Heap) (locs : List Loc) (ls : Array Slot), fX4_takeText_c30  y2 T L = some (r, T', L') → Hp g A s H locs (wTL g ad T L) → lv_has ls 3 [(2, .int y2)] → W p l e rmX4_takeText s m args below meth c H locs 0 0 (QI g A below args s r (wTL g ad T' L')) (F0 m 30 ls []) := by
        intro y2 T L H locs  ls hf hH hl
        rw [fX4_takeText_c30] at hf
        refine lv_iload_n hx hb dX4_takeText_30 rfl (lv_at hl 0 rfl) ?_
        have hf := Option.some.inj hf
        obtain ⟨h1, hf⟩ := Prod.mk.inj hf
        obtain ⟨h2, h3⟩ := Prod.mk.inj hf
        subst h1
        subst h2
        subst h3
        exact retI C hH rfl dX4_takeText_31
      have j_20 : ∀ (T : M2) (L : M2) (H : Heap) (locs : List Loc) (ls : Array Slot), fX4_takeText_c20  T L = some (r, T', L') → Hp g A s H locs (wTL g ad T L) → lv_has ls 3 [(0, .ref (ad 0))] → W p l e rmX4_takeText s m args below meth c H locs 0 0 (QI g A below args s r (wTL g ad T' L')) (F0 m 20 ls []) := by
        intro T L H locs  ls hf hH hl
        rw [fX4_takeText_c20] at hf
        refine lv_goto (tgt := 53) hx hb dX4_takeText_20 (by decide) ?_
        exact j_53 T L _ _ ls hf hH (lv_sub hl [0] rfl)
      refine lv_iload_n hx hb dX4_takeText_6 rfl (lv_at hl 2 rfl) ?_
      refine lv_bipush (v := 120) hx hb dX4_takeText_7 (by decide) ?_
      refine lv_icmp_gt (tgt := 53) hx hb dX4_takeText_9 (by decide) (fun c_14 => ?_) (fun c_14 => ?_)
      · have hf := if_p hf c_14
        exact j_53 T L _ _ ls hf hH (lv_sub hl [0] rfl)
      · have hf := if_n hf c_14
        refine lv_aload_n hx hb dX4_takeText_12 rfl (lv_at hl 0 rfl) ?_
        refine lv_aload_n hx hb dX4_takeText_13 rfl (lv_at hl 1 rfl) ?_
        obtain ⟨r_15, T_16, L_17, hc_18, hf⟩ := bind3_inv hf
        refine aftI (runS C hE hA hH [0, 1, 2, 3, 4, 5, 6, 7, 8] nC_TL_TL_0_8 (sC_TL_TL_0_8 g ad T L) (kX4_takeItem l g ad _ T L r_15 T_16 L_17  hc_18) tw_27_15 tw_27_16 tw_26_23 tw_27_17 hdX4_takeItem rfl rfl ⟨Nat.le_of_ble_eq_true rfl, Nat.le_of_ble_eq_true rfl⟩ rfl hl.1 (rest := []) rfl (Nat.le_of_ble_eq_true rfl) dX4_takeText_14 ⟨Nat.zero_le _, Nat.zero_le _⟩) hA hH [0, 1, 2, 3, 4, 5, 6, 7, 8] [] (sC_TL_TL_0_8 g ad T L) (sR_TL_TL_0_8 g ad T L) nR_TL_TL_0_8 dj_TL_TL_0_8 [0, 1, 2, 3, 4, 5, 6, 7, 8] nP_TL_TL_0_8 (sP_TL_TL_0_8 g ad T L T_16 L_17) (fun H locs hH => ?_)
        refine lv_if_ne (tgt := 23) hx hb dX4_takeText_17 (by decide) (fun c_19 => ?_) (fun c_19 => ?_)
        · have hf := if_n hf c_19
          refine lv_aload_n hx hb dX4_takeText_23 rfl (lv_at hl 0 rfl) ?_
          refine gf_RX4_20 C hE hH 0 rfl rfl dX4_takeText_24 ?_
          refine lv_if_ne (tgt := 32) hx hb dX4_takeText_27 (by decide) (fun c_20 => ?_) (fun c_20 => ?_)
          · have hf := if_n hf c_20
            refine lv_aload_n hx hb dX4_takeText_32 rfl (lv_at hl 0 rfl) ?_
            refine gf_RX4_20 C hE hH 0 rfl rfl dX4_takeText_33 ?_
            refine lv_iconst (v := 3) hx hb dX4_takeText_36 (by decide) ?_
            refine lv_icmp_eq (tgt := 43) hx hb dX4_takeText_37 (by decide) (fun c_21 => ?_) (fun c_21 => ?_)
            · have hf := if_p hf c_21
              refine lv_aload_n hx hb dX4_takeText_43 rfl (lv_at hl 0 rfl) ?_
              obtain ⟨T_22, hc_23, hf⟩ := bind_inv hf
              refine aftV (runV C hE hA hH [0, 1] nC_TL_T_0_1 (sC_TL_T_0_1 g ad T_16 L_17) (kX3_goToNextToken l g (fun k => ad (0 + k)) _ T_16 T_22  hc_23) tw_30_6 tw_27_8 tw_27_9 tw_1_22 tw_27_10 hdX3_goToNextToken 0 rfl rfl rfl rfl ⟨Nat.le_of_ble_eq_true rfl, Nat.le_of_ble_eq_true rfl⟩ rfl hl.1 (rest := []) rfl (Nat.le_of_ble_eq_true rfl) dX4_takeText_44 ⟨Nat.zero_le _, Nat.zero_le _⟩) hA hH [0, 1] [2, 3, 4, 5, 6, 7, 8] (sC_TL_T_0_1 g ad T_16 L_17) (sR_TL_T_0_1 g ad T_16 L_17) nR_TL_T_0_1 dj_TL_T_0_1 [7, 8, 0, 1, 2, 3, 4, 5, 6] nP_TL_T_0_1 (sP_TL_T_0_1 g ad T_16 L_17 T_22) (fun H locs hH => ?_)
              obtain ⟨v_24, ev_24⟩ : ∃ z : Int32, z = y2 + (1 : Int32) := ⟨_, rfl⟩
              have hf := letb_at hf v_24 ev_24
              refine lv_iinc (v := v_24) (lv' := [(2, .int v_24), (0, .ref (ad 0)), (1, .ref (ad 2))]) hx hb dX4_takeText_47 hl (k := 2) rfl (by rw [ev_24]; rfl) (by decide) rfl (fun ls hl => ?_)
              refine lv_goto (tgt := 6) hx hb dX4_takeText_50 (by decide) ?_
              exact ih_6 v_24 T_22 L_17 _ _ ls hf hH (lv_sub hl [1, 2, 0] rfl)
            · have hf := if_n hf c_21
              exact j_40 T_16 L_17 _ _ ls hf hH (lv_sub hl [0] rfl)
          · have hf := if_p hf c_20
            exact j_30 y2 T_16 L_17 _ _ ls hf hH (lv_sub hl [2] rfl)
        · have hf := if_p hf c_19
          exact j_20 T_16 L_17 _ _ ls hf hH (lv_sub hl [0] rfl)
  refine lv_aload_n hx hb dX4_takeText_0 rfl (lv_at hl 0 rfl) ?_
  obtain ⟨T_25, hc_26, hf⟩ := bind_inv hf
  refine aftV (runV C hE hA hH [0, 1] nC_TL_T_0_1 (sC_TL_T_0_1 g ad T L) (kX3_goToFirstToken l g (fun k => ad (0 + k)) _ T T_25  hc_26) tw_27_3 tw_27_4 tw_27_5 tw_1_22 tw_27_6 hdX3_goToFirstToken 0 rfl rfl rfl rfl ⟨Nat.le_of_ble_eq_true rfl, Nat.le_of_ble_eq_true rfl⟩ rfl hl.1 (rest := []) rfl (Nat.le_of_ble_eq_true rfl) dX4_takeText_1 ⟨Nat.zero_le _, Nat.zero_le _⟩) hA hH [0, 1] [2, 3, 4, 5, 6, 7, 8] (sC_TL_T_0_1 g ad T L) (sR_TL_T_0_1 g ad T L) nR_TL_T_0_1 dj_TL_T_0_1 [7, 8, 0, 1, 2, 3, 4, 5, 6] nP_TL_T_0_1 (sP_TL_T_0_1 g ad T L T_25) (fun H locs hH => ?_)
  refine lv_iconst (v := 1) hx hb dX4_takeText_4 (by decide) ?_
  refine lv_istore_n (lv' := [(2, .int (1 : Int32)), (0, .ref (ad 0)), (1, .ref (ad 2))]) hx hb dX4_takeText_5 rfl hl (by decide) rfl (fun ls hl => ?_)
  exact lp_6 _ (1 : Int32) T_25 L _ _ ls hf hH (lv_sub hl [1, 2, 0] rfl)
