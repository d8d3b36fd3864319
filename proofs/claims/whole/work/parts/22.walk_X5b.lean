def fX5_rock_c56  (R1 : M2) (R2 : M2) (R3 : M2) (K : Int32) (T : M2) (SN : J2) (SZ : M2) (F : M1) : Option (Int32 × M2 × M1) := bind2 (fX5_tell (-1000000004 : Int32) R1 R2 R3 K T SN SZ F) (fun (r_18 : Int32) (F_19 : M1) => some (r_18, R2, F_19))
def fX5_rock_c48  (y2 : Int32) (R1 : M2) (R2 : M2) (R3 : M2) (K : Int32) (T : M2) (SN : J2) (SZ : M2) (F : M1) : Option (Int32 × M2 × M1) := some (y2, R2, F)
def fX5_rock_c24  : Nat → Int32 → Int32 → M2 → M2 → M2 → Int32 → M2 → J2 → M2 → M1 → Option (Int32 × M2 × M1)
  | 0, _, _, _, _, _, _, _, _, _, _ => none
  | n + 1, y1, y2, R1, R2, R3, K, T, SN, SZ, F => (if y2 < 0 then fX5_rock_c56  R1 R2 R3 K T SN SZ F else letb (st2 R2 0 (upd (R2 0) 1 y2)) (fun R2_22 : M2 => (fX1_daysToRelief y1 R2_22).bind (fun (r_23 : Int32) => (if y1 < r_23 then letb (y2 + (-1 : Int32)) (fun v_26 : Int32 => fX5_rock_c24 n y1 v_26 R1 R2_22 R3 K T SN SZ F) else fX5_rock_c48  y2 R1 R2_22 R3 K T SN SZ F))))
def fX5_rock (x1 : Int32) (R1 : M2) (R2 : M2) (R3 : M2) (K : Int32) (T : M2) (SN : J2) (SZ : M2) (F : M1) : Option (Int32 × M2 × M1) := (fX5_within x1 (1 : Int32) (100 : Int32)).bind (fun (r_27 : Int32) => (if r_27 = 0 then bind2 (fX5_tell (-1000000001 : Int32) R1 R2 R3 K T SN SZ F) (fun (r_32 : Int32) (F_33 : M1) => some (r_32, R2, F_33)) else (fX5_startTrial R1 R2 R3 K T SN SZ F).bind (fun (R2_30 : M2) => fX5_rock_c24  FU x1 (12 : Int32) R1 R2_30 R3 K T SN SZ F)))
def rmX5_rock : Room := { frames := 4, cells := 0, slots := 0, locals := 87 }
theorem hdX5_rock : yX5_rock.cls = yX5_rock.cls ∧ yX5_rock.cls ≠ "java/lang/invoke/MethodHandle" ∧ yX5_rock.cls ≠ "java/lang/invoke/VarHandle" ∧ (parseMethodDescriptor yX5_rock.desc).map (fun d => d.parameters.length) = some 1 := by decide +kernel
set_option maxHeartbeats 4000000 in
set_option maxRecDepth 100000 in
theorem kX5_rock (l : Launch) (g : Gl) (ad : Nat → Nat) (sz : Nat) (R1 : M2) (R2 : M2) (R3 : M2) (K : Int32) (T : M2) (SN : J2) (SZ : M2) (F : M1) (x1 : Int32) (r : Int32) (R2' : M2) (F' : M1)  (hf : fX5_rock x1 R1 R2 R3 K T SN SZ F = some (r, R2', F')) : MetI l yX5_rock (Cond.code yX5_rock cX5_rock 3 (some .int) :: wsL_law) rmX5_rock [.ref (ad 0), .int x1] g (wX g ad R1 R2 R3 K T SN SZ F) sz r (wX g ad R1 R2' R3 K T SN SZ F') := by
  refine openI (by decide +kernel) (Nat.le_of_ble_eq_true rfl) ?_
  intro p e s m args below meth c A C hE hA hH ls hl
  have hl : lv_has ls 3 [(0, .ref (ad 0)), (1, .int x1)] := hl
  have C : Cx p s m args meth c cX5_rock 3 (some .int) RX5 := C
  obtain ⟨hx, hb, hml, hown, hT, hr, hlk⟩ := id C
  rw [fX5_rock] at hf
  have lp_24 : ∀ (n_24 : Nat) (y1 : Int32) (y2 : Int32) (R2 : M2) (F : M1) (H : Heap) (locs : List Loc) (ls : Array Slot), fX5_rock_c24  n_24 y1 y2 R1 R2 R3 K T SN SZ F = some (r, R2', F') → Hp g A s H locs (wX g ad R1 R2 R3 K T SN SZ F) → lv_has ls 3 [(0, .ref (ad 0)), (1, .int y1), (2, .int y2)] → W p l e rmX5_rock s m args below meth c H locs 0 0 (QI g A below args s r (wX g ad R1 R2' R3 K T SN SZ F')) (F0 m 24 ls []) := by
    intro n_24
    induction n_24 with
    | zero =>
      intro y1 y2 R2 F H locs  ls hf hH hl
      rw [fX5_rock_c24] at hf
      cases hf
    | succ n_24 ih_24 =>
      intro y1 y2 R2 F H locs  ls hf hH hl
      rw [fX5_rock_c24] at hf
      have j_56 : ∀ (R2 : M2) (F : M1) (H : Heap) (locs : List Loc) (ls : Array Slot), fX5_rock_c56  R1 R2 R3 K T SN SZ F = some (r, R2', F') → Hp g A s H locs (wX g ad R1 R2 R3 K T SN SZ F) → lv_has ls 3 [(0, .ref (ad 0))] → W p l e rmX5_rock s m args below meth c H locs 0 0 (QI g A below args s r (wX g ad R1 R2' R3 K T SN SZ F')) (F0 m 56 ls []) := by
        intro R2 F H locs  ls hf hH hl
        rw [fX5_rock_c56] at hf
        refine lv_aload_n hx hb dX5_rock_56 rfl (lv_at hl 0 rfl) ?_
        refine lv_ldc hx hb hown (hT _ tw_19_22) dX5_rock_57 ?_
        obtain ⟨r_18, F_19, hc_20, hf⟩ := bind2_inv hf
        refine aftI (runV C hE hA hH [0, 1, 2, 3, 4, 5, 6, 7, 8, 9, 10, 11, 12, 13, 14, 15, 16, 17, 18, 19, 20, 21, 22, 23, 24, 25, 26, 27, 28, 29, 30, 31, 32, 33] nC_X_X_0_33 (sC_X_X_0_33 g ad R1 R2 R3 K T SN SZ F) (kX5_tell l g ad _ R1 R2 R3 K T SN SZ F (-1000000004 : Int32) r_18 F_19  hc_20) tw_4_17 tw_4_18 tw_4_19 tw_1_2 tw_4_20 hdX5_tell 0 rfl rfl rfl rfl ⟨Nat.le_of_ble_eq_true rfl, Nat.le_of_ble_eq_true rfl⟩ rfl hl.1 (rest := []) rfl (Nat.le_of_ble_eq_true rfl) dX5_rock_59 ⟨Nat.zero_le _, Nat.zero_le _⟩) hA hH [0, 1, 2, 3, 4, 5, 6, 7, 8, 9, 10, 11, 12, 13, 14, 15, 16, 17, 18, 19, 20, 21, 22, 23, 24, 25, 26, 27, 28, 29, 30, 31, 32, 33] [] (sC_X_X_0_33 g ad R1 R2 R3 K T SN SZ F) (sR_X_X_0_33 g ad R1 R2 R3 K T SN SZ F) nR_X_X_0_33 dj_X_X_0_33 [0, 1, 2, 3, 4, 5, 6, 7, 8, 9, 10, 11, 12, 13, 14, 15, 16, 17, 18, 19, 20, 21, 22, 23, 24, 25, 26, 27, 28, 29, 30, 31, 32, 33] nP_X_X_0_33 (sP_X_X_0_33 g ad R1 R2 R3 K T SN SZ F R1 R2 R3 K T SN SZ F_19) (fun H locs hH => ?_)
        have hf := Option.some.inj hf
        obtain ⟨h1, hf⟩ := Prod.mk.inj hf
        obtain ⟨h2, h3⟩ := Prod.mk.inj hf
        subst h1
        subst h2
        subst h3
        exact retI C hH rfl dX5_rock_62
      have j_48 : ∀ (y2 : Int32) (R2 : M2) (F : M1) (H : Heap) (locs : List Loc) (ls : Array Slot), fX5_rock_c48  y2 R1 R2 R3 K T SN SZ F = some (r, R2', F') → Hp g A s H locs (wX g ad R1 R2 R3 K T SN SZ F) → lv_has ls 3 [(2, .int y2)] → W p l e rmX5_rock s m args below meth c H locs 0 0 (QI g A below args s r (wX g ad R1 R2' R3 K T SN SZ F')) (F0 m 48 ls []) := by
        intro y2 R2 F H locs  ls hf hH hl
        rw [fX5_rock_c48] at hf
        refine lv_iload_n hx hb dX5_rock_48 rfl (lv_at hl 0 rfl) ?_
        have hf := Option.some.inj hf
        obtain ⟨h1, hf⟩ := Prod.mk.inj hf
        obtain ⟨h2, h3⟩ := Prod.mk.inj hf
        subst h1
        subst h2
        subst h3
        exact retI C hH rfl dX5_rock_49
      refine lv_iload_n hx hb dX5_rock_24 rfl (lv_at hl 2 rfl) ?_
      refine lv_if_lt (tgt := 56) hx hb dX5_rock_25 (by decide) (fun c_21 => ?_) (fun c_21 => ?_)
      · have hf := if_p hf c_21
        exact j_56 R2 F _ _ ls hf hH (lv_sub hl [0] rfl)
      · have hf := if_n hf c_21
        refine lv_aload_n hx hb dX5_rock_28 rfl (lv_at hl 0 rfl) ?_
        refine gf_RX5_16 C hE hH 0 rfl rfl dX5_rock_29 ?_
        refine lv_iload_n hx hb dX5_rock_32 rfl (lv_at hl 2 rfl) ?_
        refine pf_RX5_147 C hE hH 8 rfl rfl rfl (Nat.le_of_ble_eq_true rfl) (fun q : M2 => wX g ad R1 q R3 K T SN SZ F) (st2 R2 0 (upd (R2 0) 1 y2)) rfl dX5_rock_33 (fun R2_22 eR2_22 H locs hH => ?_)
        have hf := letb_at hf R2_22 eR2_22
        refine lv_aload_n hx hb dX5_rock_36 rfl (lv_at hl 0 rfl) ?_
        refine gf_RX5_16 C hE hH 0 rfl rfl dX5_rock_37 ?_
        refine lv_iload_n hx hb dX5_rock_40 rfl (lv_at hl 1 rfl) ?_
        obtain ⟨r_23, hc_24, hf⟩ := bind_inv hf
        refine aftPI (runV C hE hA hH [8, 9, 10, 11, 12, 13, 14] nC_X_L_8_14 (sC_X_L_8_14 g ad R1 R2_22 R3 K T SN SZ F) (kX1_daysToRelief l g (fun k => ad (8 + k)) _ R2_22 y1 r_23  hc_24) tw_19_23 tw_20_0 tw_20_1 tw_1_15 tw_20_2 hdX1_daysToRelief 8 rfl rfl rfl rfl ⟨Nat.le_of_ble_eq_true rfl, Nat.le_of_ble_eq_true rfl⟩ rfl hl.1 (rest := []) rfl (Nat.le_of_ble_eq_true rfl) dX5_rock_41 ⟨Nat.zero_le _, Nat.zero_le _⟩) ?_
        refine lv_iload_n hx hb dX5_rock_44 rfl (lv_at hl 1 rfl) ?_
        refine lv_icmp_gt (tgt := 50) hx hb dX5_rock_45 (by decide) (fun c_25 => ?_) (fun c_25 => ?_)
        · have hf := if_p hf c_25
          obtain ⟨v_26, ev_26⟩ : ∃ z : Int32, z = y2 + (-1 : Int32) := ⟨_, rfl⟩
          have hf := letb_at hf v_26 ev_26
          refine lv_iinc (v := v_26) (lv' := [(2, .int v_26), (0, .ref (ad 0)), (1, .int y1)]) hx hb dX5_rock_50 hl (k := 2) rfl (by rw [ev_26]; rfl) (by decide) rfl (fun ls hl => ?_)
          refine lv_goto (tgt := 24) hx hb dX5_rock_53 (by decide) ?_
          exact ih_24 y1 v_26 R2_22 F _ _ ls hf hH (lv_sub hl [1, 2, 0] rfl)
        · have hf := if_n hf c_25
          exact j_48 y2 R2_22 F _ _ ls hf hH (lv_sub hl [2] rfl)
  refine lv_iload_n hx hb dX5_rock_0 rfl (lv_at hl 1 rfl) ?_
  refine lv_iconst (v := 1) hx hb dX5_rock_1 (by decide) ?_
  refine lv_bipush (v := 100) hx hb dX5_rock_2 (by decide) ?_
  obtain ⟨r_27, hc_28, hf⟩ := bind_inv hf
  refine aftPI (runS C hE hA hH [] rfl rfl (kX5_within l g ad _ x1 (1 : Int32) (100 : Int32) r_27  hc_28) tw_4_14 tw_4_15 tw_1_2 tw_4_16 hdX5_within rfl rfl ⟨Nat.le_of_ble_eq_true rfl, Nat.le_of_ble_eq_true rfl⟩ rfl hl.1 (rest := []) rfl (Nat.le_of_ble_eq_true rfl) dX5_rock_4 ⟨Nat.zero_le _, Nat.zero_le _⟩) ?_
  refine lv_if_ne (tgt := 17) hx hb dX5_rock_7 (by decide) (fun c_29 => ?_) (fun c_29 => ?_)
  · have hf := if_n hf c_29
    refine lv_aload_n hx hb dX5_rock_17 rfl (lv_at hl 0 rfl) ?_
    obtain ⟨R2_30, hc_31, hf⟩ := bind_inv hf
    refine aftV (runV C hE hA hH [0, 1, 2, 3, 4, 5, 6, 7, 8, 9, 10, 11, 12, 13, 14, 15, 16, 17, 18, 19, 20, 21, 22, 23, 24, 25, 26, 27, 28, 29, 30, 31, 32, 33] nC_X_X_0_33 (sC_X_X_0_33 g ad R1 R2 R3 K T SN SZ F) (kX5_startTrial l g ad _ R1 R2 R3 K T SN SZ F R2_30  hc_31) tw_18_14 tw_18_15 tw_18_16 tw_1_2 tw_18_17 hdX5_startTrial 0 rfl rfl rfl rfl ⟨Nat.le_of_ble_eq_true rfl, Nat.le_of_ble_eq_true rfl⟩ rfl hl.1 (rest := []) rfl (Nat.le_of_ble_eq_true rfl) dX5_rock_18 ⟨Nat.zero_le _, Nat.zero_le _⟩) hA hH [0, 1, 2, 3, 4, 5, 6, 7, 8, 9, 10, 11, 12, 13, 14, 15, 16, 17, 18, 19, 20, 21, 22, 23, 24, 25, 26, 27, 28, 29, 30, 31, 32, 33] [] (sC_X_X_0_33 g ad R1 R2 R3 K T SN SZ F) (sR_X_X_0_33 g ad R1 R2 R3 K T SN SZ F) nR_X_X_0_33 dj_X_X_0_33 [0, 1, 2, 3, 4, 5, 6, 7, 8, 9, 10, 11, 12, 13, 14, 15, 16, 17, 18, 19, 20, 21, 22, 23, 24, 25, 26, 27, 28, 29, 30, 31, 32, 33] nP_X_X_0_33 (sP_X_X_0_33 g ad R1 R2 R3 K T SN SZ F R1 R2_30 R3 K T SN SZ F) (fun H locs hH => ?_)
    refine lv_bipush (v := 12) hx hb dX5_rock_21 (by decide) ?_
    refine lv_istore_n (lv' := [(2, .int (12 : Int32)), (0, .ref (ad 0)), (1, .int x1)]) hx hb dX5_rock_23 rfl hl (by decide) rfl (fun ls hl => ?_)
    exact lp_24 _ x1 (12 : Int32) R2_30 F _ _ ls hf hH (lv_sub hl [1, 2, 0] rfl)
  · have hf := if_p hf c_29
    refine lv_aload_n hx hb dX5_rock_10 rfl (lv_at hl 0 rfl) ?_
    refine lv_ldc hx hb hown (hT _ tw_4_12) dX5_rock_11 ?_
    obtain ⟨r_32, F_33, hc_34, hf⟩ := bind2_inv hf
    refine aftI (runV C hE hA hH [0, 1, 2, 3, 4, 5, 6, 7, 8, 9, 10, 11, 12, 13, 14, 15, 16, 17, 18, 19, 20, 21, 22, 23, 24, 25, 26, 27, 28, 29, 30, 31, 32, 33] nC_X_X_0_33 (sC_X_X_0_33 g ad R1 R2 R3 K T SN SZ F) (kX5_tell l g ad _ R1 R2 R3 K T SN SZ F (-1000000001 : Int32) r_32 F_33  hc_34) tw_4_17 tw_4_18 tw_4_19 tw_1_2 tw_4_20 hdX5_tell 0 rfl rfl rfl rfl ⟨Nat.le_of_ble_eq_true rfl, Nat.le_of_ble_eq_true rfl⟩ rfl hl.1 (rest := []) rfl (Nat.le_of_ble_eq_true rfl) dX5_rock_13 ⟨Nat.zero_le _, Nat.zero_le _⟩) hA hH [0, 1, 2, 3, 4, 5, 6, 7, 8, 9, 10, 11, 12, 13, 14, 15, 16, 17, 18, 19, 20, 21, 22, 23, 24, 25, 26, 27, 28, 29, 30, 31, 32, 33] [] (sC_X_X_0_33 g ad R1 R2 R3 K T SN SZ F) (sR_X_X_0_33 g ad R1 R2 R3 K T SN SZ F) nR_X_X_0_33 dj_X_X_0_33 [0, 1, 2, 3, 4, 5, 6, 7, 8, 9, 10, 11, 12, 13, 14, 15, 16, 17, 18, 19, 20, 21, 22, 23, 24, 25, 26, 27, 28, 29, 30, 31, 32, 33] nP_X_X_0_33 (sP_X_X_0_33 g ad R1 R2 R3 K T SN SZ F R1 R2 R3 K T SN SZ F_33) (fun H locs hH => ?_)
    have hf := Option.some.inj hf
    obtain ⟨h1, hf⟩ := Prod.mk.inj hf
    obtain ⟨h2, h3⟩ := Prod.mk.inj hf
    subst h1
    subst h2
    subst h3
    exact retI C hH rfl dX5_rock_16
def fX5_kind_c21  (R1 : M2) (R2 : M2) (R3 : M2) (K : Int32) (T : M2) (SN : J2) (SZ : M2) (F : M1) : Option (Int32 × M2 × M1) := bind2 (fX5_tell (-1000000001 : Int32) R1 R2 R3 K T SN SZ F) (fun (r_22 : Int32) (F_23 : M1) => some (r_22, R2, F_23))
def fX5_kind_c100  (y3 : Int32) (R1 : M2) (R2 : M2) (R3 : M2) (K : Int32) (T : M2) (SN : J2) (SZ : M2) (F : M1) : Option (Int32 × M2 × M1) := some (y3, R2, F)
def fX5_kind_c94 (k_36 : Int32 → Int32 → Int32 → Int32 → Int32 → M2 → M2 → M2 → Int32 → M2 → J2 → M2 → M1 → Option (Int32 × M2 × M1)) (y1 : Int32) (y2 : Int32) (y3 : Int32) (y4 : Int32) (y5 : Int32) (R1 : M2) (R2 : M2) (R3 : M2) (K : Int32) (T : M2) (SN : J2) (SZ : M2) (F : M1) : Option (Int32 × M2 × M1) := letb (y5 + (1 : Int32)) (fun v_25 : Int32 => k_36 y1 y2 y3 y4 v_25 R1 R2 R3 K T SN SZ F)
def fX5_kind_c36  : Nat → Int32 → Int32 → Int32 → Int32 → Int32 → M2 → M2 → M2 → Int32 → M2 → J2 → M2 → M1 → Option (Int32 × M2 × M1)
  | 0, _, _, _, _, _, _, _, _, _, _, _, _, _ => none
  | n + 1, y1, y2, y3, y4, y5, R1, R2, R3, K, T, SN, SZ, F => (if (6 : Int32) ≤ y5 then fX5_kind_c100  y3 R1 R2 R3 K T SN SZ F else (fX5_startTrial R1 R2 R3 K T SN SZ F).bind (fun (R2_27 : M2) => grd (inb y1 8) (letb (st2 R2_27 2 (upd (R2_27 2) y1.toNatClampNeg y5)) (fun R2_30 : M2 => (fX1_passDays y2 R2_30).bind (fun (R2_31 : M2) => grd (inb y1 8) ((fJ6_bitCount_0f7a4 (R2_31 5 y1.toNatClampNeg)).bind (fun (r_34 : Int32) => (if r_34 ≤ y4 then fX5_kind_c94 (fX5_kind_c36 n) y1 y2 y3 y4 y5 R1 R2_31 R3 K T SN SZ F else fX5_kind_c94 (fX5_kind_c36 n) y1 y2 y5 r_34 y5 R1 R2_31 R3 K T SN SZ F))))))))
def fX5_kind (x1 : Int32) (x2 : Int32) (R1 : M2) (R2 : M2) (R3 : M2) (K : Int32) (T : M2) (SN : J2) (SZ : M2) (F : M1) : Option (Int32 × M2 × M1) := (fX1_hasKeeper x1 R1).bind (fun (r_37 : Int32) => (if r_37 = 0 then fX5_kind_c21  R1 R2 R3 K T SN SZ F else (fX5_within x2 (1 : Int32) (100 : Int32)).bind (fun (r_40 : Int32) => (if r_40 = 0 then fX5_kind_c21  R1 R2 R3 K T SN SZ F else fX5_kind_c36  FU x1 x2 (0 : Int32) (-1 : Int32) (0 : Int32) R1 R2 R3 K T SN SZ F))))
def rmX5_kind : Room := { frames := 6, cells := 0, slots := 0, locals := 137 }
theorem hdX5_kind : yX5_kind.cls = yX5_kind.cls ∧ yX5_kind.cls ≠ "java/lang/invoke/MethodHandle" ∧ yX5_kind.cls ≠ "java/lang/invoke/VarHandle" ∧ (parseMethodDescriptor yX5_kind.desc).map (fun d => d.parameters.length) = some 2 := by decide +kernel
set_option maxHeartbeats 4000000 in
set_option maxRecDepth 100000 in
theorem kX5_kind (l : Launch) (g : Gl) (ad : Nat → Nat) (sz : Nat) (R1 : M2) (R2 : M2) (R3 : M2) (K : Int32) (T : M2) (SN : J2) (SZ : M2) (F : M1) (x1 : Int32) (x2 : Int32) (r : Int32) (R2' : M2) (F' : M1)  (hf : fX5_kind x1 x2 R1 R2 R3 K T SN SZ F = some (r, R2', F')) : MetI l yX5_kind (Cond.code yX5_kind cX5_kind 7 (some .int) :: wsL_law) rmX5_kind [.ref (ad 0), .int x1, .int x2] g (wX g ad R1 R2 R3 K T SN SZ F) sz r (wX g ad R1 R2' R3 K T SN SZ F') := by
  refine openI (by decide +kernel) (Nat.le_of_ble_eq_true rfl) ?_
  intro p e s m args below meth c A C hE hA hH ls hl
  have hl : lv_has ls 7 [(0, .ref (ad 0)), (1, .int x1), (2, .int x2)] := hl
  have C : Cx p s m args meth c cX5_kind 7 (some .int) RX5 := C
  obtain ⟨hx, hb, hml, hown, hT, hr, hlk⟩ := id C
  rw [fX5_kind] at hf
  have j_21 : ∀ (R2 : M2) (F : M1) (H : Heap) (locs : List Loc) (ls : Array Slot), fX5_kind_c21  R1 R2 R3 K T SN SZ F = some (r, R2', F') → Hp g A s H locs (wX g ad R1 R2 R3 K T SN SZ F) → lv_has ls 7 [(0, .ref (ad 0))] → W p l e rmX5_kind s m args below meth c H locs 0 0 (QI g A below args s r (wX g ad R1 R2' R3 K T SN SZ F')) (F0 m 21 ls []) := by
    intro R2 F H locs  ls hf hH hl
    rw [fX5_kind_c21] at hf
    refine lv_aload_n hx hb dX5_kind_21 rfl (lv_at hl 0 rfl) ?_
    refine lv_ldc hx hb hown (hT _ tw_4_12) dX5_kind_22 ?_
    obtain ⟨r_22, F_23, hc_24, hf⟩ := bind2_inv hf
    refine aftI (runV C hE hA hH [0, 1, 2, 3, 4, 5, 6, 7, 8, 9, 10, 11, 12, 13, 14, 15, 16, 17, 18, 19, 20, 21, 22, 23, 24, 25, 26, 27, 28, 29, 30, 31, 32, 33] nC_X_X_0_33 (sC_X_X_0_33 g ad R1 R2 R3 K T SN SZ F) (kX5_tell l g ad _ R1 R2 R3 K T SN SZ F (-1000000001 : Int32) r_22 F_23  hc_24) tw_4_17 tw_4_18 tw_4_19 tw_1_2 tw_4_20 hdX5_tell 0 rfl rfl rfl rfl ⟨Nat.le_of_ble_eq_true rfl, Nat.le_of_ble_eq_true rfl⟩ rfl hl.1 (rest := []) rfl (Nat.le_of_ble_eq_true rfl) dX5_kind_24 ⟨Nat.zero_le _, Nat.zero_le _⟩) hA hH [0, 1, 2, 3, 4, 5, 6, 7, 8, 9, 10, 11, 12, 13, 14, 15, 16, 17, 18, 19, 20, 21, 22, 23, 24, 25, 26, 27, 28, 29, 30, 31, 32, 33] [] (sC_X_X_0_33 g ad R1 R2 R3 K T SN SZ F) (sR_X_X_0_33 g ad R1 R2 R3 K T SN SZ F) nR_X_X_0_33 dj_X_X_0_33 [0, 1, 2, 3, 4, 5, 6, 7, 8, 9, 10, 11, 12, 13, 14, 15, 16, 17, 18, 19, 20, 21, 22, 23, 24, 25, 26, 27, 28, 29, 30, 31, 32, 33] nP_X_X_0_33 (sP_X_X_0_33 g ad R1 R2 R3 K T SN SZ F R1 R2 R3 K T SN SZ F_23) (fun H locs hH => ?_)
    have hf := Option.some.inj hf
    obtain ⟨h1, hf⟩ := Prod.mk.inj hf
    obtain ⟨h2, h3⟩ := Prod.mk.inj hf
    subst h1
    subst h2
    subst h3
    exact retI C hH rfl dX5_kind_27
  have lp_36 : ∀ (n_36 : Nat) (y1 : Int32) (y2 : Int32) (y3 : Int32) (y4 : Int32) (y5 : Int32) (R2 : M2) (F : M1) (H : Heap) (locs : List Loc) (ls : Array Slot), fX5_kind_c36  n_36 y1 y2 y3 y4 y5 R1 R2 R3 K T SN SZ F = some (r, R2', F') → Hp g A s H locs (wX g ad R1 R2 R3 K T SN SZ F) → lv_has ls 7 [(0, .ref (ad 0)), (1, .int y1), (2, .int y2), (3, .int y3), (4, .int y4), (5, .int y5)] → W p l e rmX5_kind s m args below meth c H locs 0 0 (QI g A below args s r (wX g ad R1 R2' R3 K T SN SZ F')) (F0 m 36 ls []) := by
    intro n_36
    induction n_36 with
    | zero =>
      intro y1 y2 y3 y4 y5 R2 F H locs  ls hf hH hl
      rw [fX5_kind_c36] at hf
      cases hf
    | succ n_36 ih_36 =>
      intro y1 y2 y3 y4 y5 R2 F H locs  ls hf hH hl
      rw [fX5_kind_c36] at hf
      have j_100 : ∀ (y3 : Int32) (R2 : M2) (F : M1) (H : Heap) (locs : List Loc) (ls : Array Slot), fX5_kind_c100  y3 R1 R2 R3 K T SN SZ F = some (r, R2', F') → Hp g A s H locs (wX g ad R1 R2 R3 K T SN SZ F) → lv_has ls 7 [(3, .int y3)] → W p l e rmX5_kind s m args below meth c H locs 0 0 (QI g A below args s r (wX g ad R1 R2' R3 K T SN SZ F')) (F0 m 100 ls []) := by
        intro y3 R2 F H locs  ls hf hH hl
        rw [fX5_kind_c100] at hf
        refine lv_iload_n hx hb dX5_kind_100 rfl (lv_at hl 0 rfl) ?_
        have hf := Option.some.inj hf
        obtain ⟨h1, hf⟩ := Prod.mk.inj hf
        obtain ⟨h2, h3⟩ := Prod.mk.inj hf
        subst h1
        subst h2
        subst h3
        exact retI C hH rfl dX5_kind_101
      have j_94 : ∀ (y1 : Int32) (y2 : Int32) (y3 : Int32) (y4 : Int32) (y5 : Int32) (R2 : M2) (F : M1) (H : Heap) (locs : List Loc) (ls : Array Slot), fX5_kind_c94 (fX5_kind_c36 n_36) y1 y2 y3 y4 y5 R1 R2 R3 K T SN SZ F = some (r, R2', F') → Hp g A s H locs (wX g ad R1 R2 R3 K T SN SZ F) → lv_has ls 7 [(0, .ref (ad 0)), (1, .int y1), (2, .int y2), (3, .int y3), (4, .int y4), (5, .int y5)] → W p l e rmX5_kind s m args below meth c H locs 0 0 (QI g A below args s r (wX g ad R1 R2' R3 K T SN SZ F')) (F0 m 94 ls []) := by
        intro y1 y2 y3 y4 y5 R2 F H locs  ls hf hH hl
        rw [fX5_kind_c94] at hf
        obtain ⟨v_25, ev_25⟩ : ∃ z : Int32, z = y5 + (1 : Int32) := ⟨_, rfl⟩
        have hf := letb_at hf v_25 ev_25
        refine lv_iinc (v := v_25) (lv' := [(5, .int v_25), (0, .ref (ad 0)), (1, .int y1), (2, .int y2), (3, .int y3), (4, .int y4)]) hx hb dX5_kind_94 hl (k := 5) rfl (by rw [ev_25]; rfl) (by decide) rfl (fun ls hl => ?_)
        refine lv_goto (tgt := 36) hx hb dX5_kind_97 (by decide) ?_
        exact ih_36 y1 y2 y3 y4 v_25 R2 F _ _ ls hf hH (lv_sub hl [1, 2, 3, 4, 5, 0] rfl)
      refine lv_iload hx hb dX5_kind_36 (lv_at hl 5 rfl) ?_
      refine lv_bipush (v := 6) hx hb dX5_kind_38 (by decide) ?_
      refine lv_icmp_ge (tgt := 100) hx hb dX5_kind_40 (by decide) (fun c_26 => ?_) (fun c_26 => ?_)
      · have hf := if_p hf c_26
        exact j_100 y3 R2 F _ _ ls hf hH (lv_sub hl [3] rfl)
      · have hf := if_n hf c_26
        refine lv_aload_n hx hb dX5_kind_43 rfl (lv_at hl 0 rfl) ?_
        obtain ⟨R2_27, hc_28, hf⟩ := bind_inv hf
        refine aftV (runV C hE hA hH [0, 1, 2, 3, 4, 5, 6, 7, 8, 9, 10, 11, 12, 13, 14, 15, 16, 17, 18, 19, 20, 21, 22, 23, 24, 25, 26, 27, 28, 29, 30, 31, 32, 33] nC_X_X_0_33 (sC_X_X_0_33 g ad R1 R2 R3 K T SN SZ F) (kX5_startTrial l g ad _ R1 R2 R3 K T SN SZ F R2_27  hc_28) tw_18_14 tw_18_15 tw_18_16 tw_1_2 tw_18_17 hdX5_startTrial 0 rfl rfl rfl rfl ⟨Nat.le_of_ble_eq_true rfl, Nat.le_of_ble_eq_true rfl⟩ rfl hl.1 (rest := []) rfl (Nat.le_of_ble_eq_true rfl) dX5_kind_44 ⟨Nat.zero_le _, Nat.zero_le _⟩) hA hH [0, 1, 2, 3, 4, 5, 6, 7, 8, 9, 10, 11, 12, 13, 14, 15, 16, 17, 18, 19, 20, 21, 22, 23, 24, 25, 26, 27, 28, 29, 30, 31, 32, 33] [] (sC_X_X_0_33 g ad R1 R2 R3 K T SN SZ F) (sR_X_X_0_33 g ad R1 R2 R3 K T SN SZ F) nR_X_X_0_33 dj_X_X_0_33 [0, 1, 2, 3, 4, 5, 6, 7, 8, 9, 10, 11, 12, 13, 14, 15, 16, 17, 18, 19, 20, 21, 22, 23, 24, 25, 26, 27, 28, 29, 30, 31, 32, 33] nP_X_X_0_33 (sP_X_X_0_33 g ad R1 R2 R3 K T SN SZ F R1 R2_27 R3 K T SN SZ F) (fun H locs hH => ?_)
        refine lv_aload_n hx hb dX5_kind_47 rfl (lv_at hl 0 rfl) ?_
        refine gf_RX5_16 C hE hH 0 rfl rfl dX5_kind_48 ?_
        refine gf_RX5_93 C hE hH 8 rfl rfl dX5_kind_51 ?_
        refine lv_iload_n hx hb dX5_kind_54 rfl (lv_at hl 1 rfl) ?_
        refine lv_iload hx hb dX5_kind_55 (lv_at hl 5 rfl) ?_
        obtain ⟨hi_29, hf⟩ := grd_inv hf
        refine xiast C hE hH 10 rfl hi_29 (fun q : M2 => wX g ad R1 q R3 K T SN SZ F) (st2 R2_27 2 (upd (R2_27 2) y1.toNatClampNeg y5)) rfl dX5_kind_57 (fun R2_30 eR2_30 H locs hH => ?_)
        have hf := letb_at hf R2_30 eR2_30
        refine lv_aload_n hx hb dX5_kind_58 rfl (lv_at hl 0 rfl) ?_
        refine gf_RX5_16 C hE hH 0 rfl rfl dX5_kind_59 ?_
        refine lv_iload_n hx hb dX5_kind_62 rfl (lv_at hl 2 rfl) ?_
        obtain ⟨R2_31, hc_32, hf⟩ := bind_inv hf
        refine aftV (runV C hE hA hH [8, 9, 10, 11, 12, 13, 14] nC_X_L_8_14 (sC_X_L_8_14 g ad R1 R2_30 R3 K T SN SZ F) (kX1_passDays l g (fun k => ad (8 + k)) _ R2_30 y2 R2_31  hc_32) tw_14_1 tw_14_2 tw_14_3 tw_1_15 tw_14_4 hdX1_passDays 8 rfl rfl rfl rfl ⟨Nat.le_of_ble_eq_true rfl, Nat.le_of_ble_eq_true rfl⟩ rfl hl.1 (rest := []) rfl (Nat.le_of_ble_eq_true rfl) dX5_kind_63 ⟨Nat.zero_le _, Nat.zero_le _⟩) hA hH [8, 9, 10, 11, 12, 13, 14] [0, 1, 2, 3, 4, 5, 6, 7, 15, 16, 17, 18, 19, 20, 21, 22, 23, 24, 25, 26, 27, 28, 29, 30, 31, 32, 33] (sC_X_L_8_14 g ad R1 R2_30 R3 K T SN SZ F) (sR_X_L_8_14 g ad R1 R2_30 R3 K T SN SZ F) nR_X_L_8_14 dj_X_L_8_14 [0, 1, 2, 3, 4, 5, 6, 7, 27, 28, 29, 30, 31, 32, 33, 8, 9, 10, 11, 12, 13, 14, 15, 16, 17, 18, 19, 20, 21, 22, 23, 24, 25, 26] nP_X_L_8_14 (sP_X_L_8_14 g ad R1 R2_30 R3 K T SN SZ F R2_31) (fun H locs hH => ?_)
        refine lv_aload_n hx hb dX5_kind_66 rfl (lv_at hl 0 rfl) ?_
        refine gf_RX5_16 C hE hH 0 rfl rfl dX5_kind_67 ?_
        refine gf_RX5_102 C hE hH 8 rfl rfl dX5_kind_70 ?_
        refine lv_iload_n hx hb dX5_kind_73 rfl (lv_at hl 1 rfl) ?_
        obtain ⟨hi_33, hf⟩ := grd_inv hf
        refine xiald C hE hH 13 rfl hi_33 dX5_kind_74 ?_
        obtain ⟨r_34, hc_35, hf⟩ := bind_inv hf
        refine aftPI (runS C hE hA hH [] rfl rfl (kJ6_bitCount_0f7a4 l g ad _ (R2_31 5 y1.toNatClampNeg) r_34  hc_35) tw_22_21 tw_22_22 tw_22_23 tw_23_0 hdJ6_bitCount_0f7a4 rfl rfl ⟨Nat.le_of_ble_eq_true rfl, Nat.le_of_ble_eq_true rfl⟩ rfl hl.1 (rest := []) rfl (Nat.le_of_ble_eq_true rfl) dX5_kind_75 ⟨Nat.zero_le _, Nat.zero_le _⟩) ?_
        refine lv_istore (lv' := [(6, .int r_34), (0, .ref (ad 0)), (1, .int y1), (2, .int y2), (3, .int y3), (4, .int y4), (5, .int y5)]) hx hb dX5_kind_78 hl (by decide) rfl (fun ls hl => ?_)
        refine lv_iload hx hb dX5_kind_80 (lv_at hl 0 rfl) ?_
        refine lv_iload hx hb dX5_kind_82 (lv_at hl 5 rfl) ?_
        refine lv_icmp_le (tgt := 94) hx hb dX5_kind_84 (by decide) (fun c_36 => ?_) (fun c_36 => ?_)
        · have hf := if_p hf c_36
          exact j_94 y1 y2 y3 y4 y5 R2_31 F _ _ ls hf hH (lv_sub hl [1, 2, 3, 4, 5, 6] rfl)
        · have hf := if_n hf c_36
          refine lv_iload hx hb dX5_kind_87 (lv_at hl 0 rfl) ?_
          refine lv_istore (lv' := [(4, .int r_34), (6, .int r_34), (0, .ref (ad 0)), (1, .int y1), (2, .int y2), (3, .int y3), (5, .int y5)]) hx hb dX5_kind_89 hl (by decide) rfl (fun ls hl => ?_)
          refine lv_iload hx hb dX5_kind_91 (lv_at hl 6 rfl) ?_
          refine lv_istore_n (lv' := [(3, .int y5), (4, .int r_34), (6, .int r_34), (0, .ref (ad 0)), (1, .int y1), (2, .int y2), (5, .int y5)]) hx hb dX5_kind_93 rfl hl (by decide) rfl (fun ls hl => ?_)
          exact j_94 y1 y2 y5 r_34 y5 R2_31 F _ _ ls hf hH (lv_sub hl [3, 4, 5, 0, 1, 6] rfl)
  refine lv_aload_n hx hb dX5_kind_0 rfl (lv_at hl 0 rfl) ?_
  refine gf_RX5_10 C hE hH 0 rfl rfl dX5_kind_1 ?_
  refine lv_iload_n hx hb dX5_kind_4 rfl (lv_at hl 1 rfl) ?_
  obtain ⟨r_37, hc_38, hf⟩ := bind_inv hf
  refine aftPI (runV C hE hA hH [1, 2, 3, 4, 5, 6, 7] nC_X_L_1_7 (sC_X_L_1_7 g ad R1 R2 R3 K T SN SZ F) (kX1_hasKeeper l g (fun k => ad (1 + k)) _ R1 x1 r_37  hc_38) tw_9_6 tw_9_7 tw_9_8 tw_1_15 tw_9_9 hdX1_hasKeeper 1 rfl rfl rfl rfl ⟨Nat.le_of_ble_eq_true rfl, Nat.le_of_ble_eq_true rfl⟩ rfl hl.1 (rest := []) rfl (Nat.le_of_ble_eq_true rfl) dX5_kind_5 ⟨Nat.zero_le _, Nat.zero_le _⟩) ?_
  refine lv_if_eq (tgt := 21) hx hb dX5_kind_8 (by decide) (fun c_39 => ?_) (fun c_39 => ?_)
  · have hf := if_p hf c_39
    exact j_21 R2 F _ _ ls hf hH (lv_sub hl [0] rfl)
  · have hf := if_n hf c_39
    refine lv_iload_n hx hb dX5_kind_11 rfl (lv_at hl 2 rfl) ?_
    refine lv_iconst (v := 1) hx hb dX5_kind_12 (by decide) ?_
    refine lv_bipush (v := 100) hx hb dX5_kind_13 (by decide) ?_
    obtain ⟨r_40, hc_41, hf⟩ := bind_inv hf
    refine aftPI (runS C hE hA hH [] rfl rfl (kX5_within l g ad _ x2 (1 : Int32) (100 : Int32) r_40  hc_41) tw_4_14 tw_4_15 tw_1_2 tw_4_16 hdX5_within rfl rfl ⟨Nat.le_of_ble_eq_true rfl, Nat.le_of_ble_eq_true rfl⟩ rfl hl.1 (rest := []) rfl (Nat.le_of_ble_eq_true rfl) dX5_kind_15 ⟨Nat.zero_le _, Nat.zero_le _⟩) ?_
    refine lv_if_ne (tgt := 28) hx hb dX5_kind_18 (by decide) (fun c_42 => ?_) (fun c_42 => ?_)
    · have hf := if_n hf c_42
      refine lv_iconst (v := 0) hx hb dX5_kind_28 (by decide) ?_
      refine lv_istore_n (lv' := [(3, .int (0 : Int32)), (0, .ref (ad 0)), (1, .int x1), (2, .int x2)]) hx hb dX5_kind_29 rfl hl (by decide) rfl (fun ls hl => ?_)
      refine lv_iconst (v := (-1)) hx hb dX5_kind_30 (by decide) ?_
      refine lv_istore (lv' := [(4, .int (-1 : Int32)), (3, .int (0 : Int32)), (0, .ref (ad 0)), (1, .int x1), (2, .int x2)]) hx hb dX5_kind_31 hl (by decide) rfl (fun ls hl => ?_)
      refine lv_iconst (v := 0) hx hb dX5_kind_33 (by decide) ?_
      refine lv_istore (lv' := [(5, .int (0 : Int32)), (4, .int (-1 : Int32)), (3, .int (0 : Int32)), (0, .ref (ad 0)), (1, .int x1), (2, .int x2)]) hx hb dX5_kind_34 hl (by decide) rfl (fun ls hl => ?_)
      exact lp_36 _ x1 x2 (0 : Int32) (-1 : Int32) (0 : Int32) R2 F _ _ ls hf hH (lv_sub hl [3, 4, 5, 2, 1, 0] rfl)
    · have hf := if_p hf c_42
      exact j_21 R2 F _ _ ls hf hH (lv_sub hl [0] rfl)
def fX5_staysLit_c42  (z0 : Int32) (R1 : M2) (R2 : M2) (R3 : M2) (K : Int32) (T : M2) (SN : J2) (SZ : M2) (F : M1) : Option (Int32 × M2) := grd (isB z0) (some (z0, R2))
def fX5_staysLit (x1 : Int32) (x2 : Int32) (R1 : M2) (R2 : M2) (R3 : M2) (K : Int32) (T : M2) (SN : J2) (SZ : M2) (F : M1) : Option (Int32 × M2) := (fX5_startTrial R1 R2 R3 K T SN SZ F).bind (fun (R2_7 : M2) => letb (st2 R2_7 0 (upd (R2_7 0) 2 x1)) (fun R2_9 : M2 => (fX1_passDays x2 R2_9).bind (fun (R2_10 : M2) => (if (R2_10 0 5) = (R1 0 5) then fX5_staysLit_c42  (1 : Int32) R1 R2_10 R3 K T SN SZ F else fX5_staysLit_c42  (0 : Int32) R1 R2_10 R3 K T SN SZ F))))
def rmX5_staysLit : Room := { frames := 6, cells := 0, slots := 0, locals := 137 }
theorem hdX5_staysLit : yX5_staysLit.cls = yX5_staysLit.cls ∧ yX5_staysLit.cls ≠ "java/lang/invoke/MethodHandle" ∧ yX5_staysLit.cls ≠ "java/lang/invoke/VarHandle" ∧ (parseMethodDescriptor yX5_staysLit.desc).map (fun d => d.parameters.length) = some 2 := by decide +kernel
set_option maxHeartbeats 4000000 in
set_option maxRecDepth 100000 in
theorem kX5_staysLit (l : Launch) (g : Gl) (ad : Nat → Nat) (sz : Nat) (R1 : M2) (R2 : M2) (R3 : M2) (K : Int32) (T : M2) (SN : J2) (SZ : M2) (F : M1) (x1 : Int32) (x2 : Int32) (r : Int32) (R2' : M2)  (hf : fX5_staysLit x1 x2 R1 R2 R3 K T SN SZ F = some (r, R2')) : MetI l yX5_staysLit (Cond.code yX5_staysLit cX5_staysLit 3 (some .boolean) :: wsL_law) rmX5_staysLit [.ref (ad 0), .int x1, .int x2] g (wX g ad R1 R2 R3 K T SN SZ F) sz r (wX g ad R1 R2' R3 K T SN SZ F) := by
  refine openI (by decide +kernel) (Nat.le_of_ble_eq_true rfl) ?_
  intro p e s m args below meth c A C hE hA hH ls hl
  have hl : lv_has ls 3 [(0, .ref (ad 0)), (1, .int x1), (2, .int x2)] := hl
  have C : Cx p s m args meth c cX5_staysLit 3 (some .boolean) RX5 := C
  obtain ⟨hx, hb, hml, hown, hT, hr, hlk⟩ := id C
  rw [fX5_staysLit] at hf
  have j_42 : ∀ (z0 : Int32) (R2 : M2) (H : Heap) (locs : List Loc) (ls : Array Slot), fX5_staysLit_c42  z0 R1 R2 R3 K T SN SZ F = some (r, R2') → Hp g A s H locs (wX g ad R1 R2 R3 K T SN SZ F) → lv_has ls 3 [] → W p l e rmX5_staysLit s m args below meth c H locs 0 0 (QI g A below args s r (wX g ad R1 R2' R3 K T SN SZ F)) (F0 m 42 ls [.int z0]) := by
    intro z0 R2 H locs  ls hf hH hl
    rw [fX5_staysLit_c42] at hf
    obtain ⟨hz, hf⟩ := grd_inv hf
    have hf := Option.some.inj hf
    obtain ⟨h1, h2⟩ := Prod.mk.inj hf
    subst h1
    subst h2
    exact retI C hH (isB_nar hz) dX5_staysLit_42
  refine lv_aload_n hx hb dX5_staysLit_0 rfl (lv_at hl 0 rfl) ?_
  obtain ⟨R2_7, hc_8, hf⟩ := bind_inv hf
  refine aftV (runV C hE hA hH [0, 1, 2, 3, 4, 5, 6, 7, 8, 9, 10, 11, 12, 13, 14, 15, 16, 17, 18, 19, 20, 21, 22, 23, 24, 25, 26, 27, 28, 29, 30, 31, 32, 33] nC_X_X_0_33 (sC_X_X_0_33 g ad R1 R2 R3 K T SN SZ F) (kX5_startTrial l g ad _ R1 R2 R3 K T SN SZ F R2_7  hc_8) tw_18_14 tw_18_15 tw_18_16 tw_1_2 tw_18_17 hdX5_startTrial 0 rfl rfl rfl rfl ⟨Nat.le_of_ble_eq_true rfl, Nat.le_of_ble_eq_true rfl⟩ rfl hl.1 (rest := []) rfl (Nat.le_of_ble_eq_true rfl) dX5_staysLit_1 ⟨Nat.zero_le _, Nat.zero_le _⟩) hA hH [0, 1, 2, 3, 4, 5, 6, 7, 8, 9, 10, 11, 12, 13, 14, 15, 16, 17, 18, 19, 20, 21, 22, 23, 24, 25, 26, 27, 28, 29, 30, 31, 32, 33] [] (sC_X_X_0_33 g ad R1 R2 R3 K T SN SZ F) (sR_X_X_0_33 g ad R1 R2 R3 K T SN SZ F) nR_X_X_0_33 dj_X_X_0_33 [0, 1, 2, 3, 4, 5, 6, 7, 8, 9, 10, 11, 12, 13, 14, 15, 16, 17, 18, 19, 20, 21, 22, 23, 24, 25, 26, 27, 28, 29, 30, 31, 32, 33] nP_X_X_0_33 (sP_X_X_0_33 g ad R1 R2 R3 K T SN SZ F R1 R2_7 R3 K T SN SZ F) (fun H locs hH => ?_)
  refine lv_aload_n hx hb dX5_staysLit_4 rfl (lv_at hl 0 rfl) ?_
  refine gf_RX5_16 C hE hH 0 rfl rfl dX5_staysLit_5 ?_
  refine lv_iload_n hx hb dX5_staysLit_8 rfl (lv_at hl 1 rfl) ?_
  refine pf_RX5_150 C hE hH 8 rfl rfl rfl (Nat.le_of_ble_eq_true rfl) (fun q : M2 => wX g ad R1 q R3 K T SN SZ F) (st2 R2_7 0 (upd (R2_7 0) 2 x1)) rfl dX5_staysLit_9 (fun R2_9 eR2_9 H locs hH => ?_)
  have hf := letb_at hf R2_9 eR2_9
  refine lv_aload_n hx hb dX5_staysLit_12 rfl (lv_at hl 0 rfl) ?_
  refine gf_RX5_16 C hE hH 0 rfl rfl dX5_staysLit_13 ?_
  refine lv_iload_n hx hb dX5_staysLit_16 rfl (lv_at hl 2 rfl) ?_
  obtain ⟨R2_10, hc_11, hf⟩ := bind_inv hf
  refine aftV (runV C hE hA hH [8, 9, 10, 11, 12, 13, 14] nC_X_L_8_14 (sC_X_L_8_14 g ad R1 R2_9 R3 K T SN SZ F) (kX1_passDays l g (fun k => ad (8 + k)) _ R2_9 x2 R2_10  hc_11) tw_14_1 tw_14_2 tw_14_3 tw_1_15 tw_14_4 hdX1_passDays 8 rfl rfl rfl rfl ⟨Nat.le_of_ble_eq_true rfl, Nat.le_of_ble_eq_true rfl⟩ rfl hl.1 (rest := []) rfl (Nat.le_of_ble_eq_true rfl) dX5_staysLit_17 ⟨Nat.zero_le _, Nat.zero_le _⟩) hA hH [8, 9, 10, 11, 12, 13, 14] [0, 1, 2, 3, 4, 5, 6, 7, 15, 16, 17, 18, 19, 20, 21, 22, 23, 24, 25, 26, 27, 28, 29, 30, 31, 32, 33] (sC_X_L_8_14 g ad R1 R2_9 R3 K T SN SZ F) (sR_X_L_8_14 g ad R1 R2_9 R3 K T SN SZ F) nR_X_L_8_14 dj_X_L_8_14 [0, 1, 2, 3, 4, 5, 6, 7, 27, 28, 29, 30, 31, 32, 33, 8, 9, 10, 11, 12, 13, 14, 15, 16, 17, 18, 19, 20, 21, 22, 23, 24, 25, 26] nP_X_L_8_14 (sP_X_L_8_14 g ad R1 R2_9 R3 K T SN SZ F R2_10) (fun H locs hH => ?_)
  refine lv_aload_n hx hb dX5_staysLit_20 rfl (lv_at hl 0 rfl) ?_
  refine gf_RX5_16 C hE hH 0 rfl rfl dX5_staysLit_21 ?_
  refine gf_RX5_159 C hE hH 8 rfl rfl dX5_staysLit_24 ?_
  refine lv_aload_n hx hb dX5_staysLit_27 rfl (lv_at hl 0 rfl) ?_
  refine gf_RX5_10 C hE hH 0 rfl rfl dX5_staysLit_28 ?_
  refine gf_RX5_159 C hE hH 1 rfl rfl dX5_staysLit_31 ?_
  refine lv_icmp_ne (tgt := 41) hx hb dX5_staysLit_34 (by decide) (fun c_12 => ?_) (fun c_12 => ?_)
  · have hf := if_n hf c_12
    refine lv_iconst (v := 0) hx hb dX5_staysLit_41 (by decide) ?_
    exact j_42 (0 : Int32) R2_10 _ _ ls hf hH (lv_sub hl [] rfl)
  · have hf := if_p hf c_12
    refine lv_iconst (v := 1) hx hb dX5_staysLit_37 (by decide) ?_
    refine lv_goto (tgt := 42) hx hb dX5_staysLit_38 (by decide) ?_
    exact j_42 (1 : Int32) R2_10 _ _ ls hf hH (lv_sub hl [] rfl)
def fX5_enough_c91  (y3 : Int32) (R1 : M2) (R2 : M2) (R3 : M2) (K : Int32) (T : M2) (SN : J2) (SZ : M2) (F : M1) : Option (Int32 × M2 × M1) := some (y3, R2, F)
def fX5_enough_c85 (k_44 : Int32 → Int32 → Int32 → Int32 → M2 → M2 → M2 → Int32 → M2 → J2 → M2 → M1 → Option (Int32 × M2 × M1)) (y1 : Int32) (y2 : Int32) (y3 : Int32) (y4 : Int32) (R1 : M2) (R2 : M2) (R3 : M2) (K : Int32) (T : M2) (SN : J2) (SZ : M2) (F : M1) : Option (Int32 × M2 × M1) := letb (y4 + (1 : Int32)) (fun v_23 : Int32 => k_44 y1 y2 y3 v_23 R1 R2 R3 K T SN SZ F)
def fX5_enough_c44  : Nat → Int32 → Int32 → Int32 → Int32 → M2 → M2 → M2 → Int32 → M2 → J2 → M2 → M1 → Option (Int32 × M2 × M1)
  | 0, _, _, _, _, _, _, _, _, _, _, _, _ => none
  | n + 1, y1, y2, y3, y4, R1, R2, R3, K, T, SN, SZ, F => (if (999 : Int32) ≤ y4 then fX5_enough_c91  y3 R1 R2 R3 K T SN SZ F else (if y3 ≤ y2 then fX5_enough_c91  y3 R1 R2 R3 K T SN SZ F else letb ((y2 + y3) / (2 : Int32)) (fun v_26 : Int32 => bind2 (fX5_staysLit v_26 y1 R1 R2 R3 K T SN SZ F) (fun (r_27 : Int32) (R2_28 : M2) => (if r_27 = 0 then letb (v_26 + (1 : Int32)) (fun v_31 : Int32 => fX5_enough_c85 (fX5_enough_c44 n) y1 v_31 y3 y4 R1 R2_28 R3 K T SN SZ F) else fX5_enough_c85 (fX5_enough_c44 n) y1 y2 v_26 y4 R1 R2_28 R3 K T SN SZ F)))))
def fX5_enough (x1 : Int32) (R1 : M2) (R2 : M2) (R3 : M2) (K : Int32) (T : M2) (SN : J2) (SZ : M2) (F : M1) : Option (Int32 × M2 × M1) := (fX5_within x1 (1 : Int32) (60 : Int32)).bind (fun (r_32 : Int32) => (if r_32 = 0 then bind2 (fX5_tell (-1000000001 : Int32) R1 R2 R3 K T SN SZ F) (fun (r_42 : Int32) (F_43 : M1) => some (r_42, R2, F_43)) else bind2 (fX5_staysLit (999 : Int32) x1 R1 R2 R3 K T SN SZ F) (fun (r_35 : Int32) (R2_36 : M2) => (if r_35 = 0 then bind2 (fX5_tell (-1000000004 : Int32) R1 R2_36 R3 K T SN SZ F) (fun (r_39 : Int32) (F_40 : M1) => some (r_39, R2_36, F_40)) else fX5_enough_c44  FU x1 (0 : Int32) (999 : Int32) (0 : Int32) R1 R2_36 R3 K T SN SZ F))))
def rmX5_enough : Room := { frames := 7, cells := 0, slots := 0, locals := 159 }
theorem hdX5_enough : yX5_enough.cls = yX5_enough.cls ∧ yX5_enough.cls ≠ "java/lang/invoke/MethodHandle" ∧ yX5_enough.cls ≠ "java/lang/invoke/VarHandle" ∧ (parseMethodDescriptor yX5_enough.desc).map (fun d => d.parameters.length) = some 1 := by decide +kernel
set_option maxHeartbeats 4000000 in
set_option maxRecDepth 100000 in
theorem kX5_enough (l : Launch) (g : Gl) (ad : Nat → Nat) (sz : Nat) (R1 : M2) (R2 : M2) (R3 : M2) (K : Int32) (T : M2) (SN : J2) (SZ : M2) (F : M1) (x1 : Int32) (r : Int32) (R2' : M2) (F' : M1)  (hf : fX5_enough x1 R1 R2 R3 K T SN SZ F = some (r, R2', F')) : MetI l yX5_enough (Cond.code yX5_enough cX5_enough 6 (some .int) :: wsL_law) rmX5_enough [.ref (ad 0), .int x1] g (wX g ad R1 R2 R3 K T SN SZ F) sz r (wX g ad R1 R2' R3 K T SN SZ F') := by
  refine openI (by decide +kernel) (Nat.le_of_ble_eq_true rfl) ?_
  intro p e s m args below meth c A C hE hA hH ls hl
  have hl : lv_has ls 6 [(0, .ref (ad 0)), (1, .int x1)] := hl
  have C : Cx p s m args meth c cX5_enough 6 (some .int) RX5 := C
  obtain ⟨hx, hb, hml, hown, hT, hr, hlk⟩ := id C
  rw [fX5_enough] at hf
  have lp_44 : ∀ (n_44 : Nat) (y1 : Int32) (y2 : Int32) (y3 : Int32) (y4 : Int32) (R2 : M2) (F : M1) (H : Heap) (locs : List Loc) (ls : Array Slot), fX5_enough_c44  n_44 y1 y2 y3 y4 R1 R2 R3 K T SN SZ F = some (r, R2', F') → Hp g A s H locs (wX g ad R1 R2 R3 K T SN SZ F) → lv_has ls 6 [(0, .ref (ad 0)), (1, .int y1), (2, .int y2), (3, .int y3), (4, .int y4)] → W p l e rmX5_enough s m args below meth c H locs 0 0 (QI g A below args s r (wX g ad R1 R2' R3 K T SN SZ F')) (F0 m 44 ls []) := by
    intro n_44
    induction n_44 with
    | zero =>
      intro y1 y2 y3 y4 R2 F H locs  ls hf hH hl
      rw [fX5_enough_c44] at hf
      cases hf
    | succ n_44 ih_44 =>
      intro y1 y2 y3 y4 R2 F H locs  ls hf hH hl
      rw [fX5_enough_c44] at hf
      have j_91 : ∀ (y3 : Int32) (R2 : M2) (F : M1) (H : Heap) (locs : List Loc) (ls : Array Slot), fX5_enough_c91  y3 R1 R2 R3 K T SN SZ F = some (r, R2', F') → Hp g A s H locs (wX g ad R1 R2 R3 K T SN SZ F) → lv_has ls 6 [(3, .int y3)] → W p l e rmX5_enough s m args below meth c H locs 0 0 (QI g A below args s r (wX g ad R1 R2' R3 K T SN SZ F')) (F0 m 91 ls []) := by
        intro y3 R2 F H locs  ls hf hH hl
        rw [fX5_enough_c91] at hf
        refine lv_iload_n hx hb dX5_enough_91 rfl (lv_at hl 0 rfl) ?_
        have hf := Option.some.inj hf
        obtain ⟨h1, hf⟩ := Prod.mk.inj hf
        obtain ⟨h2, h3⟩ := Prod.mk.inj hf
        subst h1
        subst h2
        subst h3
        exact retI C hH rfl dX5_enough_92
      have j_85 : ∀ (y1 : Int32) (y2 : Int32) (y3 : Int32) (y4 : Int32) (R2 : M2) (F : M1) (H : Heap) (locs : List Loc) (ls : Array Slot), fX5_enough_c85 (fX5_enough_c44 n_44) y1 y2 y3 y4 R1 R2 R3 K T SN SZ F = some (r, R2', F') → Hp g A s H locs (wX g ad R1 R2 R3 K T SN SZ F) → lv_has ls 6 [(0, .ref (ad 0)), (1, .int y1), (2, .int y2), (3, .int y3), (4, .int y4)] → W p l e rmX5_enough s m args below meth c H locs 0 0 (QI g A below args s r (wX g ad R1 R2' R3 K T SN SZ F')) (F0 m 85 ls []) := by
        intro y1 y2 y3 y4 R2 F H locs  ls hf hH hl
        rw [fX5_enough_c85] at hf
        obtain ⟨v_23, ev_23⟩ : ∃ z : Int32, z = y4 + (1 : Int32) := ⟨_, rfl⟩
        have hf := letb_at hf v_23 ev_23
        refine lv_iinc (v := v_23) (lv' := [(4, .int v_23), (0, .ref (ad 0)), (1, .int y1), (2, .int y2), (3, .int y3)]) hx hb dX5_enough_85 hl (k := 4) rfl (by rw [ev_23]; rfl) (by decide) rfl (fun ls hl => ?_)
        refine lv_goto (tgt := 44) hx hb dX5_enough_88 (by decide) ?_
        exact ih_44 y1 y2 y3 v_23 R2 F _ _ ls hf hH (lv_sub hl [1, 2, 3, 4, 0] rfl)
      refine lv_iload hx hb dX5_enough_44 (lv_at hl 4 rfl) ?_
      refine lv_sipush (v := 999) hx hb dX5_enough_46 (by decide) ?_
      refine lv_icmp_ge (tgt := 91) hx hb dX5_enough_49 (by decide) (fun c_24 => ?_) (fun c_24 => ?_)
      · have hf := if_p hf c_24
        exact j_91 y3 R2 F _ _ ls hf hH (lv_sub hl [3] rfl)
      · have hf := if_n hf c_24
        refine lv_iload_n hx hb dX5_enough_52 rfl (lv_at hl 2 rfl) ?_
        refine lv_iload_n hx hb dX5_enough_53 rfl (lv_at hl 3 rfl) ?_
        refine lv_icmp_ge (tgt := 91) hx hb dX5_enough_54 (by decide) (fun c_25 => ?_) (fun c_25 => ?_)
        · have hf := if_p hf c_25
          exact j_91 y3 R2 F _ _ ls hf hH (lv_sub hl [3] rfl)
        · have hf := if_n hf c_25
          refine lv_iload_n hx hb dX5_enough_57 rfl (lv_at hl 2 rfl) ?_
          refine lv_iload_n hx hb dX5_enough_58 rfl (lv_at hl 3 rfl) ?_
          refine lv_iadd hx hb dX5_enough_59 ?_
          refine lv_iconst (v := 2) hx hb dX5_enough_60 (by decide) ?_
          refine lv_idiv hx hb dX5_enough_61 (by decide) ?_
          refine lv_topi (fun v_26 ev_26 => ?_)
          have hf := letb_at hf v_26 ev_26
          refine lv_istore (lv' := [(5, .int v_26), (0, .ref (ad 0)), (1, .int y1), (2, .int y2), (3, .int y3), (4, .int y4)]) hx hb dX5_enough_62 hl (by decide) rfl (fun ls hl => ?_)
          refine lv_aload_n hx hb dX5_enough_64 rfl (lv_at hl 1 rfl) ?_
          refine lv_iload hx hb dX5_enough_65 (lv_at hl 0 rfl) ?_
          refine lv_iload_n hx hb dX5_enough_67 rfl (lv_at hl 2 rfl) ?_
          obtain ⟨r_27, R2_28, hc_29, hf⟩ := bind2_inv hf
          refine aftI (runV C hE hA hH [0, 1, 2, 3, 4, 5, 6, 7, 8, 9, 10, 11, 12, 13, 14, 15, 16, 17, 18, 19, 20, 21, 22, 23, 24, 25, 26, 27, 28, 29, 30, 31, 32, 33] nC_X_X_0_33 (sC_X_X_0_33 g ad R1 R2 R3 K T SN SZ F) (kX5_staysLit l g ad _ R1 R2 R3 K T SN SZ F v_26 y1 r_27 R2_28  hc_29) tw_23_12 tw_23_13 tw_23_14 tw_1_2 tw_23_15 hdX5_staysLit 0 rfl rfl rfl rfl ⟨Nat.le_of_ble_eq_true rfl, Nat.le_of_ble_eq_true rfl⟩ rfl hl.1 (rest := []) rfl (Nat.le_of_ble_eq_true rfl) dX5_enough_68 ⟨Nat.zero_le _, Nat.zero_le _⟩) hA hH [0, 1, 2, 3, 4, 5, 6, 7, 8, 9, 10, 11, 12, 13, 14, 15, 16, 17, 18, 19, 20, 21, 22, 23, 24, 25, 26, 27, 28, 29, 30, 31, 32, 33] [] (sC_X_X_0_33 g ad R1 R2 R3 K T SN SZ F) (sR_X_X_0_33 g ad R1 R2 R3 K T SN SZ F) nR_X_X_0_33 dj_X_X_0_33 [0, 1, 2, 3, 4, 5, 6, 7, 8, 9, 10, 11, 12, 13, 14, 15, 16, 17, 18, 19, 20, 21, 22, 23, 24, 25, 26, 27, 28, 29, 30, 31, 32, 33] nP_X_X_0_33 (sP_X_X_0_33 g ad R1 R2 R3 K T SN SZ F R1 R2_28 R3 K T SN SZ F) (fun H locs hH => ?_)
          refine lv_if_eq (tgt := 80) hx hb dX5_enough_71 (by decide) (fun c_30 => ?_) (fun c_30 => ?_)
          · have hf := if_p hf c_30
            refine lv_iload hx hb dX5_enough_80 (lv_at hl 0 rfl) ?_
            refine lv_iconst (v := 1) hx hb dX5_enough_82 (by decide) ?_
            refine lv_iadd hx hb dX5_enough_83 ?_
            refine lv_topi (fun v_31 ev_31 => ?_)
            have hf := letb_at hf v_31 ev_31
            refine lv_istore_n (lv' := [(2, .int v_31), (5, .int v_26), (0, .ref (ad 0)), (1, .int y1), (3, .int y3), (4, .int y4)]) hx hb dX5_enough_84 rfl hl (by decide) rfl (fun ls hl => ?_)
            exact j_85 y1 v_31 y3 y4 R2_28 F _ _ ls hf hH (lv_sub hl [2, 3, 0, 4, 5] rfl)
          · have hf := if_n hf c_30
            refine lv_iload hx hb dX5_enough_74 (lv_at hl 0 rfl) ?_
            refine lv_istore_n (lv' := [(3, .int v_26), (5, .int v_26), (0, .ref (ad 0)), (1, .int y1), (2, .int y2), (4, .int y4)]) hx hb dX5_enough_76 rfl hl (by decide) rfl (fun ls hl => ?_)
            refine lv_goto (tgt := 85) hx hb dX5_enough_77 (by decide) ?_
            exact j_85 y1 y2 v_26 y4 R2_28 F _ _ ls hf hH (lv_sub hl [2, 3, 4, 0, 5] rfl)
  refine lv_iload_n hx hb dX5_enough_0 rfl (lv_at hl 1 rfl) ?_
  refine lv_iconst (v := 1) hx hb dX5_enough_1 (by decide) ?_
  refine lv_bipush (v := 60) hx hb dX5_enough_2 (by decide) ?_
  obtain ⟨r_32, hc_33, hf⟩ := bind_inv hf
  refine aftPI (runS C hE hA hH [] rfl rfl (kX5_within l g ad _ x1 (1 : Int32) (60 : Int32) r_32  hc_33) tw_4_14 tw_4_15 tw_1_2 tw_4_16 hdX5_within rfl rfl ⟨Nat.le_of_ble_eq_true rfl, Nat.le_of_ble_eq_true rfl⟩ rfl hl.1 (rest := []) rfl (Nat.le_of_ble_eq_true rfl) dX5_enough_4 ⟨Nat.zero_le _, Nat.zero_le _⟩) ?_
  refine lv_if_ne (tgt := 17) hx hb dX5_enough_7 (by decide) (fun c_34 => ?_) (fun c_34 => ?_)
  · have hf := if_n hf c_34
    refine lv_aload_n hx hb dX5_enough_17 rfl (lv_at hl 0 rfl) ?_
    refine lv_sipush (v := 999) hx hb dX5_enough_18 (by decide) ?_
    refine lv_iload_n hx hb dX5_enough_21 rfl (lv_at hl 1 rfl) ?_
    obtain ⟨r_35, R2_36, hc_37, hf⟩ := bind2_inv hf
    refine aftI (runV C hE hA hH [0, 1, 2, 3, 4, 5, 6, 7, 8, 9, 10, 11, 12, 13, 14, 15, 16, 17, 18, 19, 20, 21, 22, 23, 24, 25, 26, 27, 28, 29, 30, 31, 32, 33] nC_X_X_0_33 (sC_X_X_0_33 g ad R1 R2 R3 K T SN SZ F) (kX5_staysLit l g ad _ R1 R2 R3 K T SN SZ F (999 : Int32) x1 r_35 R2_36  hc_37) tw_23_12 tw_23_13 tw_23_14 tw_1_2 tw_23_15 hdX5_staysLit 0 rfl rfl rfl rfl ⟨Nat.le_of_ble_eq_true rfl, Nat.le_of_ble_eq_true rfl⟩ rfl hl.1 (rest := []) rfl (Nat.le_of_ble_eq_true rfl) dX5_enough_22 ⟨Nat.zero_le _, Nat.zero_le _⟩) hA hH [0, 1, 2, 3, 4, 5, 6, 7, 8, 9, 10, 11, 12, 13, 14, 15, 16, 17, 18, 19, 20, 21, 22, 23, 24, 25, 26, 27, 28, 29, 30, 31, 32, 33] [] (sC_X_X_0_33 g ad R1 R2 R3 K T SN SZ F) (sR_X_X_0_33 g ad R1 R2 R3 K T SN SZ F) nR_X_X_0_33 dj_X_X_0_33 [0, 1, 2, 3, 4, 5, 6, 7, 8, 9, 10, 11, 12, 13, 14, 15, 16, 17, 18, 19, 20, 21, 22, 23, 24, 25, 26, 27, 28, 29, 30, 31, 32, 33] nP_X_X_0_33 (sP_X_X_0_33 g ad R1 R2 R3 K T SN SZ F R1 R2_36 R3 K T SN SZ F) (fun H locs hH => ?_)
    refine lv_if_ne (tgt := 35) hx hb dX5_enough_25 (by decide) (fun c_38 => ?_) (fun c_38 => ?_)
    · have hf := if_n hf c_38
      refine lv_iconst (v := 0) hx hb dX5_enough_35 (by decide) ?_
      refine lv_istore_n (lv' := [(2, .int (0 : Int32)), (0, .ref (ad 0)), (1, .int x1)]) hx hb dX5_enough_36 rfl hl (by decide) rfl (fun ls hl => ?_)
      refine lv_sipush (v := 999) hx hb dX5_enough_37 (by decide) ?_
      refine lv_istore_n (lv' := [(3, .int (999 : Int32)), (2, .int (0 : Int32)), (0, .ref (ad 0)), (1, .int x1)]) hx hb dX5_enough_40 rfl hl (by decide) rfl (fun ls hl => ?_)
      refine lv_iconst (v := 0) hx hb dX5_enough_41 (by decide) ?_
      refine lv_istore (lv' := [(4, .int (0 : Int32)), (3, .int (999 : Int32)), (2, .int (0 : Int32)), (0, .ref (ad 0)), (1, .int x1)]) hx hb dX5_enough_42 hl (by decide) rfl (fun ls hl => ?_)
      exact lp_44 _ x1 (0 : Int32) (999 : Int32) (0 : Int32) R2_36 F _ _ ls hf hH (lv_sub hl [3, 4, 2, 1, 0] rfl)
    · have hf := if_p hf c_38
      refine lv_aload_n hx hb dX5_enough_28 rfl (lv_at hl 0 rfl) ?_
      refine lv_ldc hx hb hown (hT _ tw_19_22) dX5_enough_29 ?_
      obtain ⟨r_39, F_40, hc_41, hf⟩ := bind2_inv hf
      refine aftI (runV C hE hA hH [0, 1, 2, 3, 4, 5, 6, 7, 8, 9, 10, 11, 12, 13, 14, 15, 16, 17, 18, 19, 20, 21, 22, 23, 24, 25, 26, 27, 28, 29, 30, 31, 32, 33] nC_X_X_0_33 (sC_X_X_0_33 g ad R1 R2_36 R3 K T SN SZ F) (kX5_tell l g ad _ R1 R2_36 R3 K T SN SZ F (-1000000004 : Int32) r_39 F_40  hc_41) tw_4_17 tw_4_18 tw_4_19 tw_1_2 tw_4_20 hdX5_tell 0 rfl rfl rfl rfl ⟨Nat.le_of_ble_eq_true rfl, Nat.le_of_ble_eq_true rfl⟩ rfl hl.1 (rest := []) rfl (Nat.le_of_ble_eq_true rfl) dX5_enough_31 ⟨Nat.zero_le _, Nat.zero_le _⟩) hA hH [0, 1, 2, 3, 4, 5, 6, 7, 8, 9, 10, 11, 12, 13, 14, 15, 16, 17, 18, 19, 20, 21, 22, 23, 24, 25, 26, 27, 28, 29, 30, 31, 32, 33] [] (sC_X_X_0_33 g ad R1 R2_36 R3 K T SN SZ F) (sR_X_X_0_33 g ad R1 R2_36 R3 K T SN SZ F) nR_X_X_0_33 dj_X_X_0_33 [0, 1, 2, 3, 4, 5, 6, 7, 8, 9, 10, 11, 12, 13, 14, 15, 16, 17, 18, 19, 20, 21, 22, 23, 24, 25, 26, 27, 28, 29, 30, 31, 32, 33] nP_X_X_0_33 (sP_X_X_0_33 g ad R1 R2_36 R3 K T SN SZ F R1 R2_36 R3 K T SN SZ F_40) (fun H locs hH => ?_)
      have hf := Option.some.inj hf
      obtain ⟨h1, hf⟩ := Prod.mk.inj hf
      obtain ⟨h2, h3⟩ := Prod.mk.inj hf
      subst h1
      subst h2
      subst h3
      exact retI C hH rfl dX5_enough_34
  · have hf := if_p hf c_34
    refine lv_aload_n hx hb dX5_enough_10 rfl (lv_at hl 0 rfl) ?_
    refine lv_ldc hx hb hown (hT _ tw_4_12) dX5_enough_11 ?_
    obtain ⟨r_42, F_43, hc_44, hf⟩ := bind2_inv hf
    refine aftI (runV C hE hA hH [0, 1, 2, 3, 4, 5, 6, 7, 8, 9, 10, 11, 12, 13, 14, 15, 16, 17, 18, 19, 20, 21, 22, 23, 24, 25, 26, 27, 28, 29, 30, 31, 32, 33] nC_X_X_0_33 (sC_X_X_0_33 g ad R1 R2 R3 K T SN SZ F) (kX5_tell l g ad _ R1 R2 R3 K T SN SZ F (-1000000001 : Int32) r_42 F_43  hc_44) tw_4_17 tw_4_18 tw_4_19 tw_1_2 tw_4_20 hdX5_tell 0 rfl rfl rfl rfl ⟨Nat.le_of_ble_eq_true rfl, Nat.le_of_ble_eq_true rfl⟩ rfl hl.1 (rest := []) rfl (Nat.le_of_ble_eq_true rfl) dX5_enough_13 ⟨Nat.zero_le _, Nat.zero_le _⟩) hA hH [0, 1, 2, 3, 4, 5, 6, 7, 8, 9, 10, 11, 12, 13, 14, 15, 16, 17, 18, 19, 20, 21, 22, 23, 24, 25, 26, 27, 28, 29, 30, 31, 32, 33] [] (sC_X_X_0_33 g ad R1 R2 R3 K T SN SZ F) (sR_X_X_0_33 g ad R1 R2 R3 K T SN SZ F) nR_X_X_0_33 dj_X_X_0_33 [0, 1, 2, 3, 4, 5, 6, 7, 8, 9, 10, 11, 12, 13, 14, 15, 16, 17, 18, 19, 20, 21, 22, 23, 24, 25, 26, 27, 28, 29, 30, 31, 32, 33] nP_X_X_0_33 (sP_X_X_0_33 g ad R1 R2 R3 K T SN SZ F R1 R2 R3 K T SN SZ F_43) (fun H locs hH => ?_)
    have hf := Option.some.inj hf
    obtain ⟨h1, hf⟩ := Prod.mk.inj hf
    obtain ⟨h2, h3⟩ := Prod.mk.inj hf
    subst h1
    subst h2
    subst h3
    exact retI C hH rfl dX5_enough_16
def fX5_beds_c78  (y2 : Int32) (R1 : M2) (R2 : M2) (R3 : M2) (K : Int32) (T : M2) (SN : J2) (SZ : M2) (F : M1) : Option (Int32 × M2 × M1) := some (y2, R2, F)
def fX5_beds_c72 (k_24 : Int32 → Int32 → Int32 → Int32 → M2 → M2 → M2 → Int32 → M2 → J2 → M2 → M1 → Option (Int32 × M2 × M1)) (y1 : Int32) (y2 : Int32) (y3 : Int32) (y4 : Int32) (R1 : M2) (R2 : M2) (R3 : M2) (K : Int32) (T : M2) (SN : J2) (SZ : M2) (F : M1) : Option (Int32 × M2 × M1) := letb (y4 + (1 : Int32)) (fun v_17 : Int32 => k_24 y1 y2 y3 v_17 R1 R2 R3 K T SN SZ F)
def fX5_beds_c24  : Nat → Int32 → Int32 → Int32 → Int32 → M2 → M2 → M2 → Int32 → M2 → J2 → M2 → M1 → Option (Int32 × M2 × M1)
  | 0, _, _, _, _, _, _, _, _, _, _, _, _ => none
  | n + 1, y1, y2, y3, y4, R1, R2, R3, K, T, SN, SZ, F => (if (3 : Int32) < y4 then fX5_beds_c78  y2 R1 R2 R3 K T SN SZ F else (fX5_startTrial R1 R2 R3 K T SN SZ F).bind (fun (R2_19 : M2) => letb (st2 R2_19 0 (upd (R2_19 0) 3 y4)) (fun R2_21 : M2 => (fX1_passDays y1 R2_21).bind (fun (R2_22 : M2) => (fX1_wordsTogether R2_22).bind (fun (r_24 : Int32) => (if r_24 ≤ y3 then fX5_beds_c72 (fX5_beds_c24 n) y1 y2 y3 y4 R1 R2_22 R3 K T SN SZ F else fX5_beds_c72 (fX5_beds_c24 n) y1 y4 r_24 y4 R1 R2_22 R3 K T SN SZ F))))))
def fX5_beds (x1 : Int32) (R1 : M2) (R2 : M2) (R3 : M2) (K : Int32) (T : M2) (SN : J2) (SZ : M2) (F : M1) : Option (Int32 × M2 × M1) := (fX5_within x1 (1 : Int32) (100 : Int32)).bind (fun (r_27 : Int32) => (if r_27 = 0 then bind2 (fX5_tell (-1000000001 : Int32) R1 R2 R3 K T SN SZ F) (fun (r_30 : Int32) (F_31 : M1) => some (r_30, R2, F_31)) else fX5_beds_c24  FU x1 (1 : Int32) (-1 : Int32) (1 : Int32) R1 R2 R3 K T SN SZ F))
def rmX5_beds : Room := { frames := 6, cells := 0, slots := 0, locals := 137 }
theorem hdX5_beds : yX5_beds.cls = yX5_beds.cls ∧ yX5_beds.cls ≠ "java/lang/invoke/MethodHandle" ∧ yX5_beds.cls ≠ "java/lang/invoke/VarHandle" ∧ (parseMethodDescriptor yX5_beds.desc).map (fun d => d.parameters.length) = some 1 := by decide +kernel
set_option maxHeartbeats 4000000 in
set_option maxRecDepth 100000 in
theorem kX5_beds (l : Launch) (g : Gl) (ad : Nat → Nat) (sz : Nat) (R1 : M2) (R2 : M2) (R3 : M2) (K : Int32) (T : M2) (SN : J2) (SZ : M2) (F : M1) (x1 : Int32) (r : Int32) (R2' : M2) (F' : M1)  (hf : fX5_beds x1 R1 R2 R3 K T SN SZ F = some (r, R2', F')) : MetI l yX5_beds (Cond.code yX5_beds cX5_beds 6 (some .int) :: wsL_law) rmX5_beds [.ref (ad 0), .int x1] g (wX g ad R1 R2 R3 K T SN SZ F) sz r (wX g ad R1 R2' R3 K T SN SZ F') := by
  refine openI (by decide +kernel) (Nat.le_of_ble_eq_true rfl) ?_
  intro p e s m args below meth c A C hE hA hH ls hl
  have hl : lv_has ls 6 [(0, .ref (ad 0)), (1, .int x1)] := hl
  have C : Cx p s m args meth c cX5_beds 6 (some .int) RX5 := C
  obtain ⟨hx, hb, hml, hown, hT, hr, hlk⟩ := id C
  rw [fX5_beds] at hf
  have lp_24 : ∀ (n_24 : Nat) (y1 : Int32) (y2 : Int32) (y3 : Int32) (y4 : Int32) (R2 : M2) (F : M1) (H : Heap) (locs : List Loc) (ls : Array Slot), fX5_beds_c24  n_24 y1 y2 y3 y4 R1 R2 R3 K T SN SZ F = some (r, R2', F') → Hp g A s H locs (wX g ad R1 R2 R3 K T SN SZ F) → lv_has ls 6 [(0, .ref (ad 0)), (1, .int y1), (2, .int y2), (3, .int y3), (4, .int y4)] → W p l e rmX5_beds s m args below meth c H locs 0 0 (QI g A below args s r (wX g ad R1 R2' R3 K T SN SZ F')) (F0 m 24 ls []) := by
    intro n_24
    induction n_24 with
    | zero =>
      intro y1 y2 y3 y4 R2 F H locs  ls hf hH hl
      rw [fX5_beds_c24] at hf
      cases hf
    | succ n_24 ih_24 =>
      intro y1 y2 y3 y4 R2 F H locs  ls hf hH hl
      rw [fX5_beds_c24] at hf
      have j_78 : ∀ (y2 : Int32) (R2 : M2) (F : M1) (H : Heap) (locs : List Loc) (ls : Array Slot), fX5_beds_c78  y2 R1 R2 R3 K T SN SZ F = some (r, R2', F') → Hp g A s H locs (wX g ad R1 R2 R3 K T SN SZ F) → lv_has ls 6 [(2, .int y2)] → W p l e rmX5_beds s m args below meth c H locs 0 0 (QI g A below args s r (wX g ad R1 R2' R3 K T SN SZ F')) (F0 m 78 ls []) := by
        intro y2 R2 F H locs  ls hf hH hl
        rw [fX5_beds_c78] at hf
        refine lv_iload_n hx hb dX5_beds_78 rfl (lv_at hl 0 rfl) ?_
        have hf := Option.some.inj hf
        obtain ⟨h1, hf⟩ := Prod.mk.inj hf
        obtain ⟨h2, h3⟩ := Prod.mk.inj hf
        subst h1
        subst h2
        subst h3
        exact retI C hH rfl dX5_beds_79
      have j_72 : ∀ (y1 : Int32) (y2 : Int32) (y3 : Int32) (y4 : Int32) (R2 : M2) (F : M1) (H : Heap) (locs : List Loc) (ls : Array Slot), fX5_beds_c72 (fX5_beds_c24 n_24) y1 y2 y3 y4 R1 R2 R3 K T SN SZ F = some (r, R2', F') → Hp g A s H locs (wX g ad R1 R2 R3 K T SN SZ F) → lv_has ls 6 [(0, .ref (ad 0)), (1, .int y1), (2, .int y2), (3, .int y3), (4, .int y4)] → W p l e rmX5_beds s m args below meth c H locs 0 0 (QI g A below args s r (wX g ad R1 R2' R3 K T SN SZ F')) (F0 m 72 ls []) := by
        intro y1 y2 y3 y4 R2 F H locs  ls hf hH hl
        rw [fX5_beds_c72] at hf
        obtain ⟨v_17, ev_17⟩ : ∃ z : Int32, z = y4 + (1 : Int32) := ⟨_, rfl⟩
        have hf := letb_at hf v_17 ev_17
        refine lv_iinc (v := v_17) (lv' := [(4, .int v_17), (0, .ref (ad 0)), (1, .int y1), (2, .int y2), (3, .int y3)]) hx hb dX5_beds_72 hl (k := 4) rfl (by rw [ev_17]; rfl) (by decide) rfl (fun ls hl => ?_)
        refine lv_goto (tgt := 24) hx hb dX5_beds_75 (by decide) ?_
        exact ih_24 y1 y2 y3 v_17 R2 F _ _ ls hf hH (lv_sub hl [1, 2, 3, 4, 0] rfl)
      refine lv_iload hx hb dX5_beds_24 (lv_at hl 4 rfl) ?_
      refine lv_iconst (v := 3) hx hb dX5_beds_26 (by decide) ?_
      refine lv_icmp_gt (tgt := 78) hx hb dX5_beds_27 (by decide) (fun c_18 => ?_) (fun c_18 => ?_)
      · have hf := if_p hf c_18
        exact j_78 y2 R2 F _ _ ls hf hH (lv_sub hl [2] rfl)
      · have hf := if_n hf c_18
        refine lv_aload_n hx hb dX5_beds_30 rfl (lv_at hl 0 rfl) ?_
        obtain ⟨R2_19, hc_20, hf⟩ := bind_inv hf
        refine aftV (runV C hE hA hH [0, 1, 2, 3, 4, 5, 6, 7, 8, 9, 10, 11, 12, 13, 14, 15, 16, 17, 18, 19, 20, 21, 22, 23, 24, 25, 26, 27, 28, 29, 30, 31, 32, 33] nC_X_X_0_33 (sC_X_X_0_33 g ad R1 R2 R3 K T SN SZ F) (kX5_startTrial l g ad _ R1 R2 R3 K T SN SZ F R2_19  hc_20) tw_18_14 tw_18_15 tw_18_16 tw_1_2 tw_18_17 hdX5_startTrial 0 rfl rfl rfl rfl ⟨Nat.le_of_ble_eq_true rfl, Nat.le_of_ble_eq_true rfl⟩ rfl hl.1 (rest := []) rfl (Nat.le_of_ble_eq_true rfl) dX5_beds_31 ⟨Nat.zero_le _, Nat.zero_le _⟩) hA hH [0, 1, 2, 3, 4, 5, 6, 7, 8, 9, 10, 11, 12, 13, 14, 15, 16, 17, 18, 19, 20, 21, 22, 23, 24, 25, 26, 27, 28, 29, 30, 31, 32, 33] [] (sC_X_X_0_33 g ad R1 R2 R3 K T SN SZ F) (sR_X_X_0_33 g ad R1 R2 R3 K T SN SZ F) nR_X_X_0_33 dj_X_X_0_33 [0, 1, 2, 3, 4, 5, 6, 7, 8, 9, 10, 11, 12, 13, 14, 15, 16, 17, 18, 19, 20, 21, 22, 23, 24, 25, 26, 27, 28, 29, 30, 31, 32, 33] nP_X_X_0_33 (sP_X_X_0_33 g ad R1 R2 R3 K T SN SZ F R1 R2_19 R3 K T SN SZ F) (fun H locs hH => ?_)
        refine lv_aload_n hx hb dX5_beds_34 rfl (lv_at hl 0 rfl) ?_
        refine gf_RX5_16 C hE hH 0 rfl rfl dX5_beds_35 ?_
        refine lv_iload hx hb dX5_beds_38 (lv_at hl 4 rfl) ?_
        refine pf_RX5_153 C hE hH 8 rfl rfl rfl (Nat.le_of_ble_eq_true rfl) (fun q : M2 => wX g ad R1 q R3 K T SN SZ F) (st2 R2_19 0 (upd (R2_19 0) 3 y4)) rfl dX5_beds_40 (fun R2_21 eR2_21 H locs hH => ?_)
        have hf := letb_at hf R2_21 eR2_21
        refine lv_aload_n hx hb dX5_beds_43 rfl (lv_at hl 0 rfl) ?_
        refine gf_RX5_16 C hE hH 0 rfl rfl dX5_beds_44 ?_
        refine lv_iload_n hx hb dX5_beds_47 rfl (lv_at hl 1 rfl) ?_
        obtain ⟨R2_22, hc_23, hf⟩ := bind_inv hf
        refine aftV (runV C hE hA hH [8, 9, 10, 11, 12, 13, 14] nC_X_L_8_14 (sC_X_L_8_14 g ad R1 R2_21 R3 K T SN SZ F) (kX1_passDays l g (fun k => ad (8 + k)) _ R2_21 y1 R2_22  hc_23) tw_14_1 tw_14_2 tw_14_3 tw_1_15 tw_14_4 hdX1_passDays 8 rfl rfl rfl rfl ⟨Nat.le_of_ble_eq_true rfl, Nat.le_of_ble_eq_true rfl⟩ rfl hl.1 (rest := []) rfl (Nat.le_of_ble_eq_true rfl) dX5_beds_48 ⟨Nat.zero_le _, Nat.zero_le _⟩) hA hH [8, 9, 10, 11, 12, 13, 14] [0, 1, 2, 3, 4, 5, 6, 7, 15, 16, 17, 18, 19, 20, 21, 22, 23, 24, 25, 26, 27, 28, 29, 30, 31, 32, 33] (sC_X_L_8_14 g ad R1 R2_21 R3 K T SN SZ F) (sR_X_L_8_14 g ad R1 R2_21 R3 K T SN SZ F) nR_X_L_8_14 dj_X_L_8_14 [0, 1, 2, 3, 4, 5, 6, 7, 27, 28, 29, 30, 31, 32, 33, 8, 9, 10, 11, 12, 13, 14, 15, 16, 17, 18, 19, 20, 21, 22, 23, 24, 25, 26] nP_X_L_8_14 (sP_X_L_8_14 g ad R1 R2_21 R3 K T SN SZ F R2_22) (fun H locs hH => ?_)
        refine lv_aload_n hx hb dX5_beds_51 rfl (lv_at hl 0 rfl) ?_
        refine gf_RX5_16 C hE hH 0 rfl rfl dX5_beds_52 ?_
        obtain ⟨r_24, hc_25, hf⟩ := bind_inv hf
        refine aftPI (runV C hE hA hH [8, 9, 10, 11, 12, 13, 14] nC_X_L_8_14 (sC_X_L_8_14 g ad R1 R2_22 R3 K T SN SZ F) (kX1_wordsTogether l g (fun k => ad (8 + k)) _ R2_22 r_24  hc_25) tw_24_0 tw_24_1 tw_24_2 tw_1_15 tw_24_3 hdX1_wordsTogether 8 rfl rfl rfl rfl ⟨Nat.le_of_ble_eq_true rfl, Nat.le_of_ble_eq_true rfl⟩ rfl hl.1 (rest := []) rfl (Nat.le_of_ble_eq_true rfl) dX5_beds_55 ⟨Nat.zero_le _, Nat.zero_le _⟩) ?_
        refine lv_istore (lv' := [(5, .int r_24), (0, .ref (ad 0)), (1, .int y1), (2, .int y2), (3, .int y3), (4, .int y4)]) hx hb dX5_beds_58 hl (by decide) rfl (fun ls hl => ?_)
        refine lv_iload hx hb dX5_beds_60 (lv_at hl 0 rfl) ?_
        refine lv_iload_n hx hb dX5_beds_62 rfl (lv_at hl 4 rfl) ?_
        refine lv_icmp_le (tgt := 72) hx hb dX5_beds_63 (by decide) (fun c_26 => ?_) (fun c_26 => ?_)
        · have hf := if_p hf c_26
          exact j_72 y1 y2 y3 y4 R2_22 F _ _ ls hf hH (lv_sub hl [1, 2, 3, 4, 5] rfl)
        · have hf := if_n hf c_26
          refine lv_iload hx hb dX5_beds_66 (lv_at hl 0 rfl) ?_
          refine lv_istore_n (lv' := [(3, .int r_24), (5, .int r_24), (0, .ref (ad 0)), (1, .int y1), (2, .int y2), (4, .int y4)]) hx hb dX5_beds_68 rfl hl (by decide) rfl (fun ls hl => ?_)
          refine lv_iload hx hb dX5_beds_69 (lv_at hl 5 rfl) ?_
          refine lv_istore_n (lv' := [(2, .int y4), (3, .int r_24), (5, .int r_24), (0, .ref (ad 0)), (1, .int y1), (4, .int y4)]) hx hb dX5_beds_71 rfl hl (by decide) rfl (fun ls hl => ?_)
          exact j_72 y1 y4 r_24 y4 R2_22 F _ _ ls hf hH (lv_sub hl [3, 4, 0, 1, 5] rfl)
  refine lv_iload_n hx hb dX5_beds_0 rfl (lv_at hl 1 rfl) ?_
  refine lv_iconst (v := 1) hx hb dX5_beds_1 (by decide) ?_
  refine lv_bipush (v := 100) hx hb dX5_beds_2 (by decide) ?_
  obtain ⟨r_27, hc_28, hf⟩ := bind_inv hf
  refine aftPI (runS C hE hA hH [] rfl rfl (kX5_within l g ad _ x1 (1 : Int32) (100 : Int32) r_27  hc_28) tw_4_14 tw_4_15 tw_1_2 tw_4_16 hdX5_within rfl rfl ⟨Nat.le_of_ble_eq_true rfl, Nat.le_of_ble_eq_true rfl⟩ rfl hl.1 (rest := []) rfl (Nat.le_of_ble_eq_true rfl) dX5_beds_4 ⟨Nat.zero_le _, Nat.zero_le _⟩) ?_
  refine lv_if_ne (tgt := 17) hx hb dX5_beds_7 (by decide) (fun c_29 => ?_) (fun c_29 => ?_)
  · have hf := if_n hf c_29
    refine lv_iconst (v := 1) hx hb dX5_beds_17 (by decide) ?_
    refine lv_istore_n (lv' := [(2, .int (1 : Int32)), (0, .ref (ad 0)), (1, .int x1)]) hx hb dX5_beds_18 rfl hl (by decide) rfl (fun ls hl => ?_)
    refine lv_iconst (v := (-1)) hx hb dX5_beds_19 (by decide) ?_
    refine lv_istore_n (lv' := [(3, .int (-1 : Int32)), (2, .int (1 : Int32)), (0, .ref (ad 0)), (1, .int x1)]) hx hb dX5_beds_20 rfl hl (by decide) rfl (fun ls hl => ?_)
    refine lv_iconst (v := 1) hx hb dX5_beds_21 (by decide) ?_
    refine lv_istore (lv' := [(4, .int (1 : Int32)), (3, .int (-1 : Int32)), (2, .int (1 : Int32)), (0, .ref (ad 0)), (1, .int x1)]) hx hb dX5_beds_22 hl (by decide) rfl (fun ls hl => ?_)
    exact lp_24 _ x1 (1 : Int32) (-1 : Int32) (1 : Int32) R2 F _ _ ls hf hH (lv_sub hl [3, 4, 2, 1, 0] rfl)
  · have hf := if_p hf c_29
    refine lv_aload_n hx hb dX5_beds_10 rfl (lv_at hl 0 rfl) ?_
    refine lv_ldc hx hb hown (hT _ tw_4_12) dX5_beds_11 ?_
    obtain ⟨r_30, F_31, hc_32, hf⟩ := bind2_inv hf
    refine aftI (runV C hE hA hH [0, 1, 2, 3, 4, 5, 6, 7, 8, 9, 10, 11, 12, 13, 14, 15, 16, 17, 18, 19, 20, 21, 22, 23, 24, 25, 26, 27, 28, 29, 30, 31, 32, 33] nC_X_X_0_33 (sC_X_X_0_33 g ad R1 R2 R3 K T SN SZ F) (kX5_tell l g ad _ R1 R2 R3 K T SN SZ F (-1000000001 : Int32) r_30 F_31  hc_32) tw_4_17 tw_4_18 tw_4_19 tw_1_2 tw_4_20 hdX5_tell 0 rfl rfl rfl rfl ⟨Nat.le_of_ble_eq_true rfl, Nat.le_of_ble_eq_true rfl⟩ rfl hl.1 (rest := []) rfl (Nat.le_of_ble_eq_true rfl) dX5_beds_13 ⟨Nat.zero_le _, Nat.zero_le _⟩) hA hH [0, 1, 2, 3, 4, 5, 6, 7, 8, 9, 10, 11, 12, 13, 14, 15, 16, 17, 18, 19, 20, 21, 22, 23, 24, 25, 26, 27, 28, 29, 30, 31, 32, 33] [] (sC_X_X_0_33 g ad R1 R2 R3 K T SN SZ F) (sR_X_X_0_33 g ad R1 R2 R3 K T SN SZ F) nR_X_X_0_33 dj_X_X_0_33 [0, 1, 2, 3, 4, 5, 6, 7, 8, 9, 10, 11, 12, 13, 14, 15, 16, 17, 18, 19, 20, 21, 22, 23, 24, 25, 26, 27, 28, 29, 30, 31, 32, 33] nP_X_X_0_33 (sP_X_X_0_33 g ad R1 R2 R3 K T SN SZ F R1 R2 R3 K T SN SZ F_31) (fun H locs hH => ?_)
    have hf := Option.some.inj hf
    obtain ⟨h1, hf⟩ := Prod.mk.inj hf
    obtain ⟨h2, h3⟩ := Prod.mk.inj hf
    subst h1
    subst h2
    subst h3
    exact retI C hH rfl dX5_beds_16
def fX5_storm_c95  (z0 : Int32) (R1 : M2) (R2 : M2) (R3 : M2) (K : Int32) (T : M2) (SN : J2) (SZ : M2) (F : M1) : Option (Int32 × M2 × M1) := some (z0, R2, F)
def fX5_storm_c81  (y2 : Int32) (R1 : M2) (R2 : M2) (R3 : M2) (K : Int32) (T : M2) (SN : J2) (SZ : M2) (F : M1) : Option (Int32 × M2 × M1) := (if 0 ≤ y2 then fX5_storm_c95  y2 R1 R2 R3 K T SN SZ F else bind2 (fX5_tell (-1000000004 : Int32) R1 R2 R3 K T SN SZ F) (fun (r_20 : Int32) (F_21 : M1) => fX5_storm_c95  r_20 R1 R2 R3 K T SN SZ F_21))
def fX5_storm_c75 (k_18 : Int32 → Int32 → Int32 → M2 → M2 → M2 → Int32 → M2 → J2 → M2 → M1 → Option (Int32 × M2 × M1)) (y1 : Int32) (y2 : Int32) (y3 : Int32) (R1 : M2) (R2 : M2) (R3 : M2) (K : Int32) (T : M2) (SN : J2) (SZ : M2) (F : M1) : Option (Int32 × M2 × M1) := letb (y3 + (1 : Int32)) (fun v_23 : Int32 => k_18 y1 y2 v_23 R1 R2 R3 K T SN SZ F)
def fX5_storm_c18  : Nat → Int32 → Int32 → Int32 → M2 → M2 → M2 → Int32 → M2 → J2 → M2 → M1 → Option (Int32 × M2 × M1)
  | 0, _, _, _, _, _, _, _, _, _, _, _ => none
  | n + 1, y1, y2, y3, R1, R2, R3, K, T, SN, SZ, F => (if (28 : Int32) ≤ y3 then fX5_storm_c81  y2 R1 R2 R3 K T SN SZ F else grd (inb y3 28) (letb (st2 R2 1 (upd (R2 1) y3.toNatClampNeg (12 : Int32))) (fun R2_26 : M2 => (fX1_daysToRelief (100 : Int32) R2_26).bind (fun (r_27 : Int32) => grd (inb y3 28) (grd (inb y3 28) (letb (st2 R2_26 1 (upd (R2_26 1) y3.toNatClampNeg (R1 1 y3.toNatClampNeg))) (fun R2_31 : M2 => (if y1 ≤ r_27 then fX5_storm_c75 (fX5_storm_c18 n) y1 y2 y3 R1 R2_31 R3 K T SN SZ F else fX5_storm_c75 (fX5_storm_c18 n) r_27 y3 y3 R1 R2_31 R3 K T SN SZ F))))))))
def fX5_storm (R1 : M2) (R2 : M2) (R3 : M2) (K : Int32) (T : M2) (SN : J2) (SZ : M2) (F : M1) : Option (Int32 × M2 × M1) := (fX5_startTrial R1 R2 R3 K T SN SZ F).bind (fun (R2_33 : M2) => (fX1_daysToRelief (100 : Int32) R1).bind (fun (r_35 : Int32) => fX5_storm_c18  FU r_35 (-1 : Int32) (0 : Int32) R1 R2_33 R3 K T SN SZ F))
def rmX5_storm : Room := { frames := 4, cells := 0, slots := 0, locals := 87 }
theorem hdX5_storm : yX5_storm.cls = yX5_storm.cls ∧ yX5_storm.cls ≠ "java/lang/invoke/MethodHandle" ∧ yX5_storm.cls ≠ "java/lang/invoke/VarHandle" ∧ (parseMethodDescriptor yX5_storm.desc).map (fun d => d.parameters.length) = some 0 := by decide +kernel
set_option maxHeartbeats 4000000 in
set_option maxRecDepth 100000 in
theorem kX5_storm (l : Launch) (g : Gl) (ad : Nat → Nat) (sz : Nat) (R1 : M2) (R2 : M2) (R3 : M2) (K : Int32) (T : M2) (SN : J2) (SZ : M2) (F : M1)  (r : Int32) (R2' : M2) (F' : M1)  (hf : fX5_storm R1 R2 R3 K T SN SZ F = some (r, R2', F')) : MetI l yX5_storm (Cond.code yX5_storm cX5_storm 5 (some .int) :: wsL_law) rmX5_storm [.ref (ad 0)] g (wX g ad R1 R2 R3 K T SN SZ F) sz r (wX g ad R1 R2' R3 K T SN SZ F') := by
  refine openI (by decide +kernel) (Nat.le_of_ble_eq_true rfl) ?_
  intro p e s m args below meth c A C hE hA hH ls hl
  have hl : lv_has ls 5 [(0, .ref (ad 0))] := hl
  have C : Cx p s m args meth c cX5_storm 5 (some .int) RX5 := C
  obtain ⟨hx, hb, hml, hown, hT, hr, hlk⟩ := id C
  rw [fX5_storm] at hf
  have lp_18 : ∀ (n_18 : Nat) (y1 : Int32) (y2 : Int32) (y3 : Int32) (R2 : M2) (F : M1) (H : Heap) (locs : List Loc) (ls : Array Slot), fX5_storm_c18  n_18 y1 y2 y3 R1 R2 R3 K T SN SZ F = some (r, R2', F') → Hp g A s H locs (wX g ad R1 R2 R3 K T SN SZ F) → lv_has ls 5 [(0, .ref (ad 0)), (1, .int y1), (2, .int y2), (3, .int y3)] → W p l e rmX5_storm s m args below meth c H locs 0 0 (QI g A below args s r (wX g ad R1 R2' R3 K T SN SZ F')) (F0 m 18 ls []) := by
    intro n_18
    induction n_18 with
    | zero =>
      intro y1 y2 y3 R2 F H locs  ls hf hH hl
      rw [fX5_storm_c18] at hf
      cases hf
    | succ n_18 ih_18 =>
      intro y1 y2 y3 R2 F H locs  ls hf hH hl
      rw [fX5_storm_c18] at hf
      have j_81 : ∀ (y2 : Int32) (R2 : M2) (F : M1) (H : Heap) (locs : List Loc) (ls : Array Slot), fX5_storm_c81  y2 R1 R2 R3 K T SN SZ F = some (r, R2', F') → Hp g A s H locs (wX g ad R1 R2 R3 K T SN SZ F) → lv_has ls 5 [(0, .ref (ad 0)), (2, .int y2)] → W p l e rmX5_storm s m args below meth c H locs 0 0 (QI g A below args s r (wX g ad R1 R2' R3 K T SN SZ F')) (F0 m 81 ls []) := by
        intro y2 R2 F H locs  ls hf hH hl
        rw [fX5_storm_c81] at hf
        have j_95 : ∀ (z0 : Int32) (R2 : M2) (F : M1) (H : Heap) (locs : List Loc) (ls : Array Slot), fX5_storm_c95  z0 R1 R2 R3 K T SN SZ F = some (r, R2', F') → Hp g A s H locs (wX g ad R1 R2 R3 K T SN SZ F) → lv_has ls 5 [] → W p l e rmX5_storm s m args below meth c H locs 0 0 (QI g A below args s r (wX g ad R1 R2' R3 K T SN SZ F')) (F0 m 95 ls [.int z0]) := by
          intro z0 R2 F H locs  ls hf hH hl
          rw [fX5_storm_c95] at hf
          have hf := Option.some.inj hf
          obtain ⟨h1, hf⟩ := Prod.mk.inj hf
          obtain ⟨h2, h3⟩ := Prod.mk.inj hf
          subst h1
          subst h2
          subst h3
          exact retI C hH rfl dX5_storm_95
        refine lv_iload_n hx hb dX5_storm_81 rfl (lv_at hl 1 rfl) ?_
        refine lv_if_ge (tgt := 94) hx hb dX5_storm_82 (by decide) (fun c_19 => ?_) (fun c_19 => ?_)
        · have hf := if_p hf c_19
          refine lv_iload_n hx hb dX5_storm_94 rfl (lv_at hl 1 rfl) ?_
          exact j_95 y2 R2 F _ _ ls hf hH (lv_sub hl [] rfl)
        · have hf := if_n hf c_19
          refine lv_aload_n hx hb dX5_storm_85 rfl (lv_at hl 0 rfl) ?_
          refine lv_ldc hx hb hown (hT _ tw_19_22) dX5_storm_86 ?_
          obtain ⟨r_20, F_21, hc_22, hf⟩ := bind2_inv hf
          refine aftI (runV C hE hA hH [0, 1, 2, 3, 4, 5, 6, 7, 8, 9, 10, 11, 12, 13, 14, 15, 16, 17, 18, 19, 20, 21, 22, 23, 24, 25, 26, 27, 28, 29, 30, 31, 32, 33] nC_X_X_0_33 (sC_X_X_0_33 g ad R1 R2 R3 K T SN SZ F) (kX5_tell l g ad _ R1 R2 R3 K T SN SZ F (-1000000004 : Int32) r_20 F_21  hc_22) tw_4_17 tw_4_18 tw_4_19 tw_1_2 tw_4_20 hdX5_tell 0 rfl rfl rfl rfl ⟨Nat.le_of_ble_eq_true rfl, Nat.le_of_ble_eq_true rfl⟩ rfl hl.1 (rest := []) rfl (Nat.le_of_ble_eq_true rfl) dX5_storm_88 ⟨Nat.zero_le _, Nat.zero_le _⟩) hA hH [0, 1, 2, 3, 4, 5, 6, 7, 8, 9, 10, 11, 12, 13, 14, 15, 16, 17, 18, 19, 20, 21, 22, 23, 24, 25, 26, 27, 28, 29, 30, 31, 32, 33] [] (sC_X_X_0_33 g ad R1 R2 R3 K T SN SZ F) (sR_X_X_0_33 g ad R1 R2 R3 K T SN SZ F) nR_X_X_0_33 dj_X_X_0_33 [0, 1, 2, 3, 4, 5, 6, 7, 8, 9, 10, 11, 12, 13, 14, 15, 16, 17, 18, 19, 20, 21, 22, 23, 24, 25, 26, 27, 28, 29, 30, 31, 32, 33] nP_X_X_0_33 (sP_X_X_0_33 g ad R1 R2 R3 K T SN SZ F R1 R2 R3 K T SN SZ F_21) (fun H locs hH => ?_)
          refine lv_goto (tgt := 95) hx hb dX5_storm_91 (by decide) ?_
          exact j_95 r_20 R2 F_21 _ _ ls hf hH (lv_sub hl [] rfl)
      have j_75 : ∀ (y1 : Int32) (y2 : Int32) (y3 : Int32) (R2 : M2) (F : M1) (H : Heap) (locs : List Loc) (ls : Array Slot), fX5_storm_c75 (fX5_storm_c18 n_18) y1 y2 y3 R1 R2 R3 K T SN SZ F = some (r, R2', F') → Hp g A s H locs (wX g ad R1 R2 R3 K T SN SZ F) → lv_has ls 5 [(0, .ref (ad 0)), (1, .int y1), (2, .int y2), (3, .int y3)] → W p l e rmX5_storm s m args below meth c H locs 0 0 (QI g A below args s r (wX g ad R1 R2' R3 K T SN SZ F')) (F0 m 75 ls []) := by
        intro y1 y2 y3 R2 F H locs  ls hf hH hl
        rw [fX5_storm_c75] at hf
        obtain ⟨v_23, ev_23⟩ : ∃ z : Int32, z = y3 + (1 : Int32) := ⟨_, rfl⟩
        have hf := letb_at hf v_23 ev_23
        refine lv_iinc (v := v_23) (lv' := [(3, .int v_23), (0, .ref (ad 0)), (1, .int y1), (2, .int y2)]) hx hb dX5_storm_75 hl (k := 3) rfl (by rw [ev_23]; rfl) (by decide) rfl (fun ls hl => ?_)
        refine lv_goto (tgt := 18) hx hb dX5_storm_78 (by decide) ?_
        exact ih_18 y1 y2 v_23 R2 F _ _ ls hf hH (lv_sub hl [1, 2, 3, 0] rfl)
      refine lv_iload_n hx hb dX5_storm_18 rfl (lv_at hl 3 rfl) ?_
      refine lv_bipush (v := 28) hx hb dX5_storm_19 (by decide) ?_
      refine lv_icmp_ge (tgt := 81) hx hb dX5_storm_21 (by decide) (fun c_24 => ?_) (fun c_24 => ?_)
      · have hf := if_p hf c_24
        exact j_81 y2 R2 F _ _ ls hf hH (lv_sub hl [0, 2] rfl)
      · have hf := if_n hf c_24
        refine lv_aload_n hx hb dX5_storm_24 rfl (lv_at hl 0 rfl) ?_
        refine gf_RX5_16 C hE hH 0 rfl rfl dX5_storm_25 ?_
        refine gf_RX5_53 C hE hH 8 rfl rfl dX5_storm_28 ?_
        refine lv_iload_n hx hb dX5_storm_31 rfl (lv_at hl 3 rfl) ?_
        refine lv_bipush (v := 12) hx hb dX5_storm_32 (by decide) ?_
        obtain ⟨hi_25, hf⟩ := grd_inv hf
        refine xiast C hE hH 9 rfl hi_25 (fun q : M2 => wX g ad R1 q R3 K T SN SZ F) (st2 R2 1 (upd (R2 1) y3.toNatClampNeg (12 : Int32))) rfl dX5_storm_34 (fun R2_26 eR2_26 H locs hH => ?_)
        have hf := letb_at hf R2_26 eR2_26
        refine lv_aload_n hx hb dX5_storm_35 rfl (lv_at hl 0 rfl) ?_
        refine gf_RX5_16 C hE hH 0 rfl rfl dX5_storm_36 ?_
        refine lv_bipush (v := 100) hx hb dX5_storm_39 (by decide) ?_
        obtain ⟨r_27, hc_28, hf⟩ := bind_inv hf
        refine aftPI (runV C hE hA hH [8, 9, 10, 11, 12, 13, 14] nC_X_L_8_14 (sC_X_L_8_14 g ad R1 R2_26 R3 K T SN SZ F) (kX1_daysToRelief l g (fun k => ad (8 + k)) _ R2_26 (100 : Int32) r_27  hc_28) tw_19_23 tw_20_0 tw_20_1 tw_1_15 tw_20_2 hdX1_daysToRelief 8 rfl rfl rfl rfl ⟨Nat.le_of_ble_eq_true rfl, Nat.le_of_ble_eq_true rfl⟩ rfl hl.1 (rest := []) rfl (Nat.le_of_ble_eq_true rfl) dX5_storm_41 ⟨Nat.zero_le _, Nat.zero_le _⟩) ?_
        refine lv_istore (lv' := [(4, .int r_27), (0, .ref (ad 0)), (1, .int y1), (2, .int y2), (3, .int y3)]) hx hb dX5_storm_44 hl (by decide) rfl (fun ls hl => ?_)
        refine lv_aload_n hx hb dX5_storm_46 rfl (lv_at hl 1 rfl) ?_
        refine gf_RX5_16 C hE hH 0 rfl rfl dX5_storm_47 ?_
        refine gf_RX5_53 C hE hH 8 rfl rfl dX5_storm_50 ?_
        refine lv_iload_n hx hb dX5_storm_53 rfl (lv_at hl 4 rfl) ?_
        refine lv_aload_n hx hb dX5_storm_54 rfl (lv_at hl 1 rfl) ?_
        refine gf_RX5_10 C hE hH 0 rfl rfl dX5_storm_55 ?_
        refine gf_RX5_53 C hE hH 1 rfl rfl dX5_storm_58 ?_
        refine lv_iload_n hx hb dX5_storm_61 rfl (lv_at hl 4 rfl) ?_
        obtain ⟨hi_29, hf⟩ := grd_inv hf
        refine xiald C hE hH 2 rfl hi_29 dX5_storm_62 ?_
        obtain ⟨hi_30, hf⟩ := grd_inv hf
        refine xiast C hE hH 9 rfl hi_30 (fun q : M2 => wX g ad R1 q R3 K T SN SZ F) (st2 R2_26 1 (upd (R2_26 1) y3.toNatClampNeg (R1 1 y3.toNatClampNeg))) rfl dX5_storm_63 (fun R2_31 eR2_31 H locs hH => ?_)
        have hf := letb_at hf R2_31 eR2_31
        refine lv_iload hx hb dX5_storm_64 (lv_at hl 0 rfl) ?_
        refine lv_iload_n hx hb dX5_storm_66 rfl (lv_at hl 2 rfl) ?_
        refine lv_icmp_ge (tgt := 75) hx hb dX5_storm_67 (by decide) (fun c_32 => ?_) (fun c_32 => ?_)
        · have hf := if_p hf c_32
          exact j_75 y1 y2 y3 R2_31 F _ _ ls hf hH (lv_sub hl [1, 2, 3, 4] rfl)
        · have hf := if_n hf c_32
          refine lv_iload hx hb dX5_storm_70 (lv_at hl 0 rfl) ?_
          refine lv_istore_n (lv' := [(1, .int r_27), (4, .int r_27), (0, .ref (ad 0)), (2, .int y2), (3, .int y3)]) hx hb dX5_storm_72 rfl hl (by decide) rfl (fun ls hl => ?_)
          refine lv_iload_n hx hb dX5_storm_73 rfl (lv_at hl 4 rfl) ?_
          refine lv_istore_n (lv' := [(2, .int y3), (1, .int r_27), (4, .int r_27), (0, .ref (ad 0)), (3, .int y3)]) hx hb dX5_storm_74 rfl hl (by decide) rfl (fun ls hl => ?_)
          exact j_75 r_27 y3 y3 R2_31 F _ _ ls hf hH (lv_sub hl [3, 1, 0, 4] rfl)
  refine lv_aload_n hx hb dX5_storm_0 rfl (lv_at hl 0 rfl) ?_
  obtain ⟨R2_33, hc_34, hf⟩ := bind_inv hf
  refine aftV (runV C hE hA hH [0, 1, 2, 3, 4, 5, 6, 7, 8, 9, 10, 11, 12, 13, 14, 15, 16, 17, 18, 19, 20, 21, 22, 23, 24, 25, 26, 27, 28, 29, 30, 31, 32, 33] nC_X_X_0_33 (sC_X_X_0_33 g ad R1 R2 R3 K T SN SZ F) (kX5_startTrial l g ad _ R1 R2 R3 K T SN SZ F R2_33  hc_34) tw_18_14 tw_18_15 tw_18_16 tw_1_2 tw_18_17 hdX5_startTrial 0 rfl rfl rfl rfl ⟨Nat.le_of_ble_eq_true rfl, Nat.le_of_ble_eq_true rfl⟩ rfl hl.1 (rest := []) rfl (Nat.le_of_ble_eq_true rfl) dX5_storm_1 ⟨Nat.zero_le _, Nat.zero_le _⟩) hA hH [0, 1, 2, 3, 4, 5, 6, 7, 8, 9, 10, 11, 12, 13, 14, 15, 16, 17, 18, 19, 20, 21, 22, 23, 24, 25, 26, 27, 28, 29, 30, 31, 32, 33] [] (sC_X_X_0_33 g ad R1 R2 R3 K T SN SZ F) (sR_X_X_0_33 g ad R1 R2 R3 K T SN SZ F) nR_X_X_0_33 dj_X_X_0_33 [0, 1, 2, 3, 4, 5, 6, 7, 8, 9, 10, 11, 12, 13, 14, 15, 16, 17, 18, 19, 20, 21, 22, 23, 24, 25, 26, 27, 28, 29, 30, 31, 32, 33] nP_X_X_0_33 (sP_X_X_0_33 g ad R1 R2 R3 K T SN SZ F R1 R2_33 R3 K T SN SZ F) (fun H locs hH => ?_)
  refine lv_aload_n hx hb dX5_storm_4 rfl (lv_at hl 0 rfl) ?_
  refine gf_RX5_10 C hE hH 0 rfl rfl dX5_storm_5 ?_
  refine lv_bipush (v := 100) hx hb dX5_storm_8 (by decide) ?_
  obtain ⟨r_35, hc_36, hf⟩ := bind_inv hf
  refine aftPI (runV C hE hA hH [1, 2, 3, 4, 5, 6, 7] nC_X_L_1_7 (sC_X_L_1_7 g ad R1 R2_33 R3 K T SN SZ F) (kX1_daysToRelief l g (fun k => ad (1 + k)) _ R1 (100 : Int32) r_35  hc_36) tw_19_23 tw_20_0 tw_20_1 tw_1_15 tw_20_2 hdX1_daysToRelief 1 rfl rfl rfl rfl ⟨Nat.le_of_ble_eq_true rfl, Nat.le_of_ble_eq_true rfl⟩ rfl hl.1 (rest := []) rfl (Nat.le_of_ble_eq_true rfl) dX5_storm_10 ⟨Nat.zero_le _, Nat.zero_le _⟩) ?_
  refine lv_istore_n (lv' := [(1, .int r_35), (0, .ref (ad 0))]) hx hb dX5_storm_13 rfl hl (by decide) rfl (fun ls hl => ?_)
  refine lv_iconst (v := (-1)) hx hb dX5_storm_14 (by decide) ?_
  refine lv_istore_n (lv' := [(2, .int (-1 : Int32)), (1, .int r_35), (0, .ref (ad 0))]) hx hb dX5_storm_15 rfl hl (by decide) rfl (fun ls hl => ?_)
  refine lv_iconst (v := 0) hx hb dX5_storm_16 (by decide) ?_
  refine lv_istore_n (lv' := [(3, .int (0 : Int32)), (2, .int (-1 : Int32)), (1, .int r_35), (0, .ref (ad 0))]) hx hb dX5_storm_17 rfl hl (by decide) rfl (fun ls hl => ?_)
  exact lp_18 _ r_35 (-1 : Int32) (0 : Int32) R2_33 F _ _ ls hf hH (lv_sub hl [3, 2, 1, 0] rfl)
def fX5_change_c137  (z0 : Int32) (R1 : M2) (R2 : M2) (R3 : M2) (K : Int32) (T : M2) (SN : J2) (SZ : M2) (F : M1) : Option (Int32 × M2 × M1) := some (z0, R2, F)
def fX5_change_c123  (y3 : Int32) (R1 : M2) (R2 : M2) (R3 : M2) (K : Int32) (T : M2) (SN : J2) (SZ : M2) (F : M1) : Option (Int32 × M2 × M1) := (if 0 ≤ y3 then fX5_change_c137  y3 R1 R2 R3 K T SN SZ F else bind2 (fX5_tell (-1000000004 : Int32) R1 R2 R3 K T SN SZ F) (fun (r_30 : Int32) (F_31 : M1) => fX5_change_c137  r_30 R1 R2 R3 K T SN SZ F_31))
def fX5_change_c117 (k_42 : Int32 → Int32 → Int32 → Int32 → M2 → M2 → M2 → Int32 → M2 → J2 → M2 → M1 → Option (Int32 × M2 × M1)) (y1 : Int32) (y2 : Int32) (y3 : Int32) (y4 : Int32) (R1 : M2) (R2 : M2) (R3 : M2) (K : Int32) (T : M2) (SN : J2) (SZ : M2) (F : M1) : Option (Int32 × M2 × M1) := letb (y4 + (1 : Int32)) (fun v_33 : Int32 => k_42 y1 y2 y3 v_33 R1 R2 R3 K T SN SZ F)
def fX5_change_c83 (k_42 : Int32 → Int32 → Int32 → Int32 → M2 → M2 → M2 → Int32 → M2 → J2 → M2 → M1 → Option (Int32 × M2 × M1)) (y1 : Int32) (y2 : Int32) (y3 : Int32) (y4 : Int32) (z0 : Int32) (z1 : Int32) (R1 : M2) (R2 : M2) (R3 : M2) (K : Int32) (T : M2) (SN : J2) (SZ : M2) (F : M1) : Option (Int32 × M2 × M1) := bind2 (fX1_putStand z1 z0 R2) (fun (r_34 : Int32) (R2_35 : M2) => (fX1_passDays y1 R2_35).bind (fun (R2_37 : M2) => (if (R2_37 0 2) ≤ y2 then fX5_change_c117 k_42 y1 y2 y3 y4 R1 R2_37 R3 K T SN SZ F else letb (R2_37 0 2) (fun v_40 : Int32 => fX5_change_c117 k_42 y1 v_40 y4 y4 R1 R2_37 R3 K T SN SZ F))))
def fX5_change_c42  : Nat → Int32 → Int32 → Int32 → Int32 → M2 → M2 → M2 → Int32 → M2 → J2 → M2 → M1 → Option (Int32 × M2 × M1)
  | 0, _, _, _, _, _, _, _, _, _, _, _, _ => none
  | n + 1, y1, y2, y3, y4, R1, R2, R3, K, T, SN, SZ, F => (if (R1 0 6) ≤ y4 then fX5_change_c123  y3 R1 R2 R3 K T SN SZ F else (fX5_startTrial R1 R2 R3 K T SN SZ F).bind (fun (R2_42 : M2) => grd (inb y4 8) ((if (R2_42 3 y4.toNatClampNeg) = (1 : Int32) then fX5_change_c83 (fX5_change_c42 n) y1 y2 y3 y4 (0 : Int32) y4 R1 R2_42 R3 K T SN SZ F else fX5_change_c83 (fX5_change_c42 n) y1 y2 y3 y4 (1 : Int32) y4 R1 R2_42 R3 K T SN SZ F))))
def fX5_change (x1 : Int32) (R1 : M2) (R2 : M2) (R3 : M2) (K : Int32) (T : M2) (SN : J2) (SZ : M2) (F : M1) : Option (Int32 × M2 × M1) := (fX5_within x1 (1 : Int32) (60 : Int32)).bind (fun (r_46 : Int32) => (if r_46 = 0 then bind2 (fX5_tell (-1000000001 : Int32) R1 R2 R3 K T SN SZ F) (fun (r_54 : Int32) (F_55 : M1) => some (r_54, R2, F_55)) else (fX5_startTrial R1 R2 R3 K T SN SZ F).bind (fun (R2_49 : M2) => (fX1_passDays x1 R2_49).bind (fun (R2_51 : M2) => letb (R2_51 0 2) (fun v_53 : Int32 => fX5_change_c42  FU x1 v_53 (-1 : Int32) (0 : Int32) R1 R2_51 R3 K T SN SZ F)))))
def rmX5_change : Room := { frames := 6, cells := 0, slots := 0, locals := 137 }
theorem hdX5_change : yX5_change.cls = yX5_change.cls ∧ yX5_change.cls ≠ "java/lang/invoke/MethodHandle" ∧ yX5_change.cls ≠ "java/lang/invoke/VarHandle" ∧ (parseMethodDescriptor yX5_change.desc).map (fun d => d.parameters.length) = some 1 := by decide +kernel
set_option maxHeartbeats 4000000 in
set_option maxRecDepth 100000 in
theorem kX5_change (l : Launch) (g : Gl) (ad : Nat → Nat) (sz : Nat) (R1 : M2) (R2 : M2) (R3 : M2) (K : Int32) (T : M2) (SN : J2) (SZ : M2) (F : M1) (x1 : Int32) (r : Int32) (R2' : M2) (F' : M1)  (hf : fX5_change x1 R1 R2 R3 K T SN SZ F = some (r, R2', F')) : MetI l yX5_change (Cond.code yX5_change cX5_change 5 (some .int) :: wsL_law) rmX5_change [.ref (ad 0), .int x1] g (wX g ad R1 R2 R3 K T SN SZ F) sz r (wX g ad R1 R2' R3 K T SN SZ F') := by
  refine openI (by decide +kernel) (Nat.le_of_ble_eq_true rfl) ?_
  intro p e s m args below meth c A C hE hA hH ls hl
  have hl : lv_has ls 5 [(0, .ref (ad 0)), (1, .int x1)] := hl
  have C : Cx p s m args meth c cX5_change 5 (some .int) RX5 := C
  obtain ⟨hx, hb, hml, hown, hT, hr, hlk⟩ := id C
  rw [fX5_change] at hf
  have lp_42 : ∀ (n_42 : Nat) (y1 : Int32) (y2 : Int32) (y3 : Int32) (y4 : Int32) (R2 : M2) (F : M1) (H : Heap) (locs : List Loc) (ls : Array Slot), fX5_change_c42  n_42 y1 y2 y3 y4 R1 R2 R3 K T SN SZ F = some (r, R2', F') → Hp g A s H locs (wX g ad R1 R2 R3 K T SN SZ F) → lv_has ls 5 [(0, .ref (ad 0)), (1, .int y1), (2, .int y2), (3, .int y3), (4, .int y4)] → W p l e rmX5_change s m args below meth c H locs 0 0 (QI g A below args s r (wX g ad R1 R2' R3 K T SN SZ F')) (F0 m 42 ls []) := by
    intro n_42
    induction n_42 with
    | zero =>
      intro y1 y2 y3 y4 R2 F H locs  ls hf hH hl
      rw [fX5_change_c42] at hf
      cases hf
    | succ n_42 ih_42 =>
      intro y1 y2 y3 y4 R2 F H locs  ls hf hH hl
      rw [fX5_change_c42] at hf
      have j_123 : ∀ (y3 : Int32) (R2 : M2) (F : M1) (H : Heap) (locs : List Loc) (ls : Array Slot), fX5_change_c123  y3 R1 R2 R3 K T SN SZ F = some (r, R2', F') → Hp g A s H locs (wX g ad R1 R2 R3 K T SN SZ F) → lv_has ls 5 [(0, .ref (ad 0)), (3, .int y3)] → W p l e rmX5_change s m args below meth c H locs 0 0 (QI g A below args s r (wX g ad R1 R2' R3 K T SN SZ F')) (F0 m 123 ls []) := by
        intro y3 R2 F H locs  ls hf hH hl
        rw [fX5_change_c123] at hf
        have j_137 : ∀ (z0 : Int32) (R2 : M2) (F : M1) (H : Heap) (locs : List Loc) (ls : Array Slot), fX5_change_c137  z0 R1 R2 R3 K T SN SZ F = some (r, R2', F') → Hp g A s H locs (wX g ad R1 R2 R3 K T SN SZ F) → lv_has ls 5 [] → W p l e rmX5_change s m args below meth c H locs 0 0 (QI g A below args s r (wX g ad R1 R2' R3 K T SN SZ F')) (F0 m 137 ls [.int z0]) := by
          intro z0 R2 F H locs  ls hf hH hl
          rw [fX5_change_c137] at hf
          have hf := Option.some.inj hf
          obtain ⟨h1, hf⟩ := Prod.mk.inj hf
          obtain ⟨h2, h3⟩ := Prod.mk.inj hf
          subst h1
          subst h2
          subst h3
          exact retI C hH rfl dX5_change_137
        refine lv_iload_n hx hb dX5_change_123 rfl (lv_at hl 1 rfl) ?_
        refine lv_if_ge (tgt := 136) hx hb dX5_change_124 (by decide) (fun c_29 => ?_) (fun c_29 => ?_)
        · have hf := if_p hf c_29
          refine lv_iload_n hx hb dX5_change_136 rfl (lv_at hl 1 rfl) ?_
          exact j_137 y3 R2 F _ _ ls hf hH (lv_sub hl [] rfl)
        · have hf := if_n hf c_29
          refine lv_aload_n hx hb dX5_change_127 rfl (lv_at hl 0 rfl) ?_
          refine lv_ldc hx hb hown (hT _ tw_19_22) dX5_change_128 ?_
          obtain ⟨r_30, F_31, hc_32, hf⟩ := bind2_inv hf
          refine aftI (runV C hE hA hH [0, 1, 2, 3, 4, 5, 6, 7, 8, 9, 10, 11, 12, 13, 14, 15, 16, 17, 18, 19, 20, 21, 22, 23, 24, 25, 26, 27, 28, 29, 30, 31, 32, 33] nC_X_X_0_33 (sC_X_X_0_33 g ad R1 R2 R3 K T SN SZ F) (kX5_tell l g ad _ R1 R2 R3 K T SN SZ F (-1000000004 : Int32) r_30 F_31  hc_32) tw_4_17 tw_4_18 tw_4_19 tw_1_2 tw_4_20 hdX5_tell 0 rfl rfl rfl rfl ⟨Nat.le_of_ble_eq_true rfl, Nat.le_of_ble_eq_true rfl⟩ rfl hl.1 (rest := []) rfl (Nat.le_of_ble_eq_true rfl) dX5_change_130 ⟨Nat.zero_le _, Nat.zero_le _⟩) hA hH [0, 1, 2, 3, 4, 5, 6, 7, 8, 9, 10, 11, 12, 13, 14, 15, 16, 17, 18, 19, 20, 21, 22, 23, 24, 25, 26, 27, 28, 29, 30, 31, 32, 33] [] (sC_X_X_0_33 g ad R1 R2 R3 K T SN SZ F) (sR_X_X_0_33 g ad R1 R2 R3 K T SN SZ F) nR_X_X_0_33 dj_X_X_0_33 [0, 1, 2, 3, 4, 5, 6, 7, 8, 9, 10, 11, 12, 13, 14, 15, 16, 17, 18, 19, 20, 21, 22, 23, 24, 25, 26, 27, 28, 29, 30, 31, 32, 33] nP_X_X_0_33 (sP_X_X_0_33 g ad R1 R2 R3 K T SN SZ F R1 R2 R3 K T SN SZ F_31) (fun H locs hH => ?_)
          refine lv_goto (tgt := 137) hx hb dX5_change_133 (by decide) ?_
          exact j_137 r_30 R2 F_31 _ _ ls hf hH (lv_sub hl [] rfl)
      have j_83 : ∀ (y1 : Int32) (y2 : Int32) (y3 : Int32) (y4 : Int32) (z0 : Int32) (z1 : Int32) (R2 : M2) (F : M1) (H : Heap) (locs : List Loc) (ls : Array Slot), fX5_change_c83 (fX5_change_c42 n_42) y1 y2 y3 y4 z0 z1 R1 R2 R3 K T SN SZ F = some (r, R2', F') → Hp g A s H locs (wX g ad R1 R2 R3 K T SN SZ F) → lv_has ls 5 [(0, .ref (ad 0)), (1, .int y1), (2, .int y2), (3, .int y3), (4, .int y4)] → W p l e rmX5_change s m args below meth c H locs 0 0 (QI g A below args s r (wX g ad R1 R2' R3 K T SN SZ F')) (F0 m 83 ls [.int z0, .int z1, .ref (ad 8)]) := by
        intro y1 y2 y3 y4 z0 z1 R2 F H locs  ls hf hH hl
        rw [fX5_change_c83] at hf
        have j_117 : ∀ (y1 : Int32) (y2 : Int32) (y3 : Int32) (y4 : Int32) (R2 : M2) (F : M1) (H : Heap) (locs : List Loc) (ls : Array Slot), fX5_change_c117 (fX5_change_c42 n_42) y1 y2 y3 y4 R1 R2 R3 K T SN SZ F = some (r, R2', F') → Hp g A s H locs (wX g ad R1 R2 R3 K T SN SZ F) → lv_has ls 5 [(0, .ref (ad 0)), (1, .int y1), (2, .int y2), (3, .int y3), (4, .int y4)] → W p l e rmX5_change s m args below meth c H locs 0 0 (QI g A below args s r (wX g ad R1 R2' R3 K T SN SZ F')) (F0 m 117 ls []) := by
          intro y1 y2 y3 y4 R2 F H locs  ls hf hH hl
          rw [fX5_change_c117] at hf
          obtain ⟨v_33, ev_33⟩ : ∃ z : Int32, z = y4 + (1 : Int32) := ⟨_, rfl⟩
          have hf := letb_at hf v_33 ev_33
          refine lv_iinc (v := v_33) (lv' := [(4, .int v_33), (0, .ref (ad 0)), (1, .int y1), (2, .int y2), (3, .int y3)]) hx hb dX5_change_117 hl (k := 4) rfl (by rw [ev_33]; rfl) (by decide) rfl (fun ls hl => ?_)
          refine lv_goto (tgt := 42) hx hb dX5_change_120 (by decide) ?_
          exact ih_42 y1 y2 y3 v_33 R2 F _ _ ls hf hH (lv_sub hl [1, 2, 3, 4, 0] rfl)
        obtain ⟨r_34, R2_35, hc_36, hf⟩ := bind2_inv hf
        refine aftI (runV C hE hA hH [8, 9, 10, 11, 12, 13, 14] nC_X_L_8_14 (sC_X_L_8_14 g ad R1 R2 R3 K T SN SZ F) (kX1_putStand l g (fun k => ad (8 + k)) _ R2 z1 z0 r_34 R2_35  hc_36) tw_12_4 tw_12_5 tw_12_6 tw_1_15 tw_12_7 hdX1_putStand 8 rfl rfl rfl rfl ⟨Nat.le_of_ble_eq_true rfl, Nat.le_of_ble_eq_true rfl⟩ rfl hl.1 (rest := []) rfl (Nat.le_of_ble_eq_true rfl) dX5_change_83 ⟨Nat.zero_le _, Nat.zero_le _⟩) hA hH [8, 9, 10, 11, 12, 13, 14] [0, 1, 2, 3, 4, 5, 6, 7, 15, 16, 17, 18, 19, 20, 21, 22, 23, 24, 25, 26, 27, 28, 29, 30, 31, 32, 33] (sC_X_L_8_14 g ad R1 R2 R3 K T SN SZ F) (sR_X_L_8_14 g ad R1 R2 R3 K T SN SZ F) nR_X_L_8_14 dj_X_L_8_14 [0, 1, 2, 3, 4, 5, 6, 7, 27, 28, 29, 30, 31, 32, 33, 8, 9, 10, 11, 12, 13, 14, 15, 16, 17, 18, 19, 20, 21, 22, 23, 24, 25, 26] nP_X_L_8_14 (sP_X_L_8_14 g ad R1 R2 R3 K T SN SZ F R2_35) (fun H locs hH => ?_)
        refine lv_pop hx hb dX5_change_86 rfl ?_
        refine lv_aload_n hx hb dX5_change_87 rfl (lv_at hl 0 rfl) ?_
        refine gf_RX5_16 C hE hH 0 rfl rfl dX5_change_88 ?_
        refine lv_iload_n hx hb dX5_change_91 rfl (lv_at hl 1 rfl) ?_
        obtain ⟨R2_37, hc_38, hf⟩ := bind_inv hf
        refine aftV (runV C hE hA hH [8, 9, 10, 11, 12, 13, 14] nC_X_L_8_14 (sC_X_L_8_14 g ad R1 R2_35 R3 K T SN SZ F) (kX1_passDays l g (fun k => ad (8 + k)) _ R2_35 y1 R2_37  hc_38) tw_14_1 tw_14_2 tw_14_3 tw_1_15 tw_14_4 hdX1_passDays 8 rfl rfl rfl rfl ⟨Nat.le_of_ble_eq_true rfl, Nat.le_of_ble_eq_true rfl⟩ rfl hl.1 (rest := []) rfl (Nat.le_of_ble_eq_true rfl) dX5_change_92 ⟨Nat.zero_le _, Nat.zero_le _⟩) hA hH [8, 9, 10, 11, 12, 13, 14] [0, 1, 2, 3, 4, 5, 6, 7, 15, 16, 17, 18, 19, 20, 21, 22, 23, 24, 25, 26, 27, 28, 29, 30, 31, 32, 33] (sC_X_L_8_14 g ad R1 R2_35 R3 K T SN SZ F) (sR_X_L_8_14 g ad R1 R2_35 R3 K T SN SZ F) nR_X_L_8_14 dj_X_L_8_14 [0, 1, 2, 3, 4, 5, 6, 7, 27, 28, 29, 30, 31, 32, 33, 8, 9, 10, 11, 12, 13, 14, 15, 16, 17, 18, 19, 20, 21, 22, 23, 24, 25, 26] nP_X_L_8_14 (sP_X_L_8_14 g ad R1 R2_35 R3 K T SN SZ F R2_37) (fun H locs hH => ?_)
        refine lv_aload_n hx hb dX5_change_95 rfl (lv_at hl 0 rfl) ?_
        refine gf_RX5_16 C hE hH 0 rfl rfl dX5_change_96 ?_
        refine gf_RX5_150 C hE hH 8 rfl rfl dX5_change_99 ?_
        refine lv_iload_n hx hb dX5_change_102 rfl (lv_at hl 2 rfl) ?_
        refine lv_icmp_le (tgt := 117) hx hb dX5_change_103 (by decide) (fun c_39 => ?_) (fun c_39 => ?_)
        · have hf := if_p hf c_39
          exact j_117 y1 y2 y3 y4 R2_37 F _ _ ls hf hH (lv_sub hl [0, 1, 2, 3, 4] rfl)
        · have hf := if_n hf c_39
          refine lv_aload_n hx hb dX5_change_106 rfl (lv_at hl 0 rfl) ?_
          refine gf_RX5_16 C hE hH 0 rfl rfl dX5_change_107 ?_
          refine gf_RX5_150 C hE hH 8 rfl rfl dX5_change_110 ?_
          refine lv_topi (fun v_40 ev_40 => ?_)
          have hf := letb_at hf v_40 ev_40
          refine lv_istore_n (lv' := [(2, .int v_40), (0, .ref (ad 0)), (1, .int y1), (3, .int y3), (4, .int y4)]) hx hb dX5_change_113 rfl hl (by decide) rfl (fun ls hl => ?_)
          refine lv_iload hx hb dX5_change_114 (lv_at hl 4 rfl) ?_
          refine lv_istore_n (lv' := [(3, .int y4), (2, .int v_40), (0, .ref (ad 0)), (1, .int y1), (4, .int y4)]) hx hb dX5_change_116 rfl hl (by decide) rfl (fun ls hl => ?_)
          exact j_117 y1 v_40 y4 y4 R2_37 F _ _ ls hf hH (lv_sub hl [2, 3, 1, 0, 4] rfl)
      refine lv_iload hx hb dX5_change_42 (lv_at hl 4 rfl) ?_
      refine lv_aload_n hx hb dX5_change_44 rfl (lv_at hl 0 rfl) ?_
      refine gf_RX5_10 C hE hH 0 rfl rfl dX5_change_45 ?_
      refine gf_RX5_195 C hE hH 1 rfl rfl dX5_change_48 ?_
      refine lv_icmp_ge (tgt := 123) hx hb dX5_change_51 (by decide) (fun c_41 => ?_) (fun c_41 => ?_)
      · have hf := if_p hf c_41
        exact j_123 y3 R2 F _ _ ls hf hH (lv_sub hl [0, 3] rfl)
      · have hf := if_n hf c_41
        refine lv_aload_n hx hb dX5_change_54 rfl (lv_at hl 0 rfl) ?_
        obtain ⟨R2_42, hc_43, hf⟩ := bind_inv hf
        refine aftV (runV C hE hA hH [0, 1, 2, 3, 4, 5, 6, 7, 8, 9, 10, 11, 12, 13, 14, 15, 16, 17, 18, 19, 20, 21, 22, 23, 24, 25, 26, 27, 28, 29, 30, 31, 32, 33] nC_X_X_0_33 (sC_X_X_0_33 g ad R1 R2 R3 K T SN SZ F) (kX5_startTrial l g ad _ R1 R2 R3 K T SN SZ F R2_42  hc_43) tw_18_14 tw_18_15 tw_18_16 tw_1_2 tw_18_17 hdX5_startTrial 0 rfl rfl rfl rfl ⟨Nat.le_of_ble_eq_true rfl, Nat.le_of_ble_eq_true rfl⟩ rfl hl.1 (rest := []) rfl (Nat.le_of_ble_eq_true rfl) dX5_change_55 ⟨Nat.zero_le _, Nat.zero_le _⟩) hA hH [0, 1, 2, 3, 4, 5, 6, 7, 8, 9, 10, 11, 12, 13, 14, 15, 16, 17, 18, 19, 20, 21, 22, 23, 24, 25, 26, 27, 28, 29, 30, 31, 32, 33] [] (sC_X_X_0_33 g ad R1 R2 R3 K T SN SZ F) (sR_X_X_0_33 g ad R1 R2 R3 K T SN SZ F) nR_X_X_0_33 dj_X_X_0_33 [0, 1, 2, 3, 4, 5, 6, 7, 8, 9, 10, 11, 12, 13, 14, 15, 16, 17, 18, 19, 20, 21, 22, 23, 24, 25, 26, 27, 28, 29, 30, 31, 32, 33] nP_X_X_0_33 (sP_X_X_0_33 g ad R1 R2 R3 K T SN SZ F R1 R2_42 R3 K T SN SZ F) (fun H locs hH => ?_)
        refine lv_aload_n hx hb dX5_change_58 rfl (lv_at hl 0 rfl) ?_
        refine gf_RX5_16 C hE hH 0 rfl rfl dX5_change_59 ?_
        refine lv_iload hx hb dX5_change_62 (lv_at hl 4 rfl) ?_
        refine lv_aload_n hx hb dX5_change_64 rfl (lv_at hl 0 rfl) ?_
        refine gf_RX5_16 C hE hH 0 rfl rfl dX5_change_65 ?_
        refine gf_RX5_96 C hE hH 8 rfl rfl dX5_change_68 ?_
        refine lv_iload hx hb dX5_change_71 (lv_at hl 4 rfl) ?_
        obtain ⟨hi_44, hf⟩ := grd_inv hf
        refine xiald C hE hH 11 rfl hi_44 dX5_change_73 ?_
        refine lv_iconst (v := 1) hx hb dX5_change_74 (by decide) ?_
        refine lv_icmp_ne (tgt := 82) hx hb dX5_change_75 (by decide) (fun c_45 => ?_) (fun c_45 => ?_)
        · have hf := if_n hf c_45
          refine lv_iconst (v := 1) hx hb dX5_change_82 (by decide) ?_
          exact j_83 y1 y2 y3 y4 (1 : Int32) y4 R2_42 F _ _ ls hf hH (lv_sub hl [0, 1, 2, 3, 4] rfl)
        · have hf := if_p hf c_45
          refine lv_iconst (v := 0) hx hb dX5_change_78 (by decide) ?_
          refine lv_goto (tgt := 83) hx hb dX5_change_79 (by decide) ?_
          exact j_83 y1 y2 y3 y4 (0 : Int32) y4 R2_42 F _ _ ls hf hH (lv_sub hl [0, 1, 2, 3, 4] rfl)
  refine lv_iload_n hx hb dX5_change_0 rfl (lv_at hl 1 rfl) ?_
  refine lv_iconst (v := 1) hx hb dX5_change_1 (by decide) ?_
  refine lv_bipush (v := 60) hx hb dX5_change_2 (by decide) ?_
  obtain ⟨r_46, hc_47, hf⟩ := bind_inv hf
  refine aftPI (runS C hE hA hH [] rfl rfl (kX5_within l g ad _ x1 (1 : Int32) (60 : Int32) r_46  hc_47) tw_4_14 tw_4_15 tw_1_2 tw_4_16 hdX5_within rfl rfl ⟨Nat.le_of_ble_eq_true rfl, Nat.le_of_ble_eq_true rfl⟩ rfl hl.1 (rest := []) rfl (Nat.le_of_ble_eq_true rfl) dX5_change_4 ⟨Nat.zero_le _, Nat.zero_le _⟩) ?_
  refine lv_if_ne (tgt := 17) hx hb dX5_change_7 (by decide) (fun c_48 => ?_) (fun c_48 => ?_)
  · have hf := if_n hf c_48
    refine lv_aload_n hx hb dX5_change_17 rfl (lv_at hl 0 rfl) ?_
    obtain ⟨R2_49, hc_50, hf⟩ := bind_inv hf
    refine aftV (runV C hE hA hH [0, 1, 2, 3, 4, 5, 6, 7, 8, 9, 10, 11, 12, 13, 14, 15, 16, 17, 18, 19, 20, 21, 22, 23, 24, 25, 26, 27, 28, 29, 30, 31, 32, 33] nC_X_X_0_33 (sC_X_X_0_33 g ad R1 R2 R3 K T SN SZ F) (kX5_startTrial l g ad _ R1 R2 R3 K T SN SZ F R2_49  hc_50) tw_18_14 tw_18_15 tw_18_16 tw_1_2 tw_18_17 hdX5_startTrial 0 rfl rfl rfl rfl ⟨Nat.le_of_ble_eq_true rfl, Nat.le_of_ble_eq_true rfl⟩ rfl hl.1 (rest := []) rfl (Nat.le_of_ble_eq_true rfl) dX5_change_18 ⟨Nat.zero_le _, Nat.zero_le _⟩) hA hH [0, 1, 2, 3, 4, 5, 6, 7, 8, 9, 10, 11, 12, 13, 14, 15, 16, 17, 18, 19, 20, 21, 22, 23, 24, 25, 26, 27, 28, 29, 30, 31, 32, 33] [] (sC_X_X_0_33 g ad R1 R2 R3 K T SN SZ F) (sR_X_X_0_33 g ad R1 R2 R3 K T SN SZ F) nR_X_X_0_33 dj_X_X_0_33 [0, 1, 2, 3, 4, 5, 6, 7, 8, 9, 10, 11, 12, 13, 14, 15, 16, 17, 18, 19, 20, 21, 22, 23, 24, 25, 26, 27, 28, 29, 30, 31, 32, 33] nP_X_X_0_33 (sP_X_X_0_33 g ad R1 R2 R3 K T SN SZ F R1 R2_49 R3 K T SN SZ F) (fun H locs hH => ?_)
    refine lv_aload_n hx hb dX5_change_21 rfl (lv_at hl 0 rfl) ?_
    refine gf_RX5_16 C hE hH 0 rfl rfl dX5_change_22 ?_
    refine lv_iload_n hx hb dX5_change_25 rfl (lv_at hl 1 rfl) ?_
    obtain ⟨R2_51, hc_52, hf⟩ := bind_inv hf
    refine aftV (runV C hE hA hH [8, 9, 10, 11, 12, 13, 14] nC_X_L_8_14 (sC_X_L_8_14 g ad R1 R2_49 R3 K T SN SZ F) (kX1_passDays l g (fun k => ad (8 + k)) _ R2_49 x1 R2_51  hc_52) tw_14_1 tw_14_2 tw_14_3 tw_1_15 tw_14_4 hdX1_passDays 8 rfl rfl rfl rfl ⟨Nat.le_of_ble_eq_true rfl, Nat.le_of_ble_eq_true rfl⟩ rfl hl.1 (rest := []) rfl (Nat.le_of_ble_eq_true rfl) dX5_change_26 ⟨Nat.zero_le _, Nat.zero_le _⟩) hA hH [8, 9, 10, 11, 12, 13, 14] [0, 1, 2, 3, 4, 5, 6, 7, 15, 16, 17, 18, 19, 20, 21, 22, 23, 24, 25, 26, 27, 28, 29, 30, 31, 32, 33] (sC_X_L_8_14 g ad R1 R2_49 R3 K T SN SZ F) (sR_X_L_8_14 g ad R1 R2_49 R3 K T SN SZ F) nR_X_L_8_14 dj_X_L_8_14 [0, 1, 2, 3, 4, 5, 6, 7, 27, 28, 29, 30, 31, 32, 33, 8, 9, 10, 11, 12, 13, 14, 15, 16, 17, 18, 19, 20, 21, 22, 23, 24, 25, 26] nP_X_L_8_14 (sP_X_L_8_14 g ad R1 R2_49 R3 K T SN SZ F R2_51) (fun H locs hH => ?_)
    refine lv_aload_n hx hb dX5_change_29 rfl (lv_at hl 0 rfl) ?_
    refine gf_RX5_16 C hE hH 0 rfl rfl dX5_change_30 ?_
    refine gf_RX5_150 C hE hH 8 rfl rfl dX5_change_33 ?_
    refine lv_topi (fun v_53 ev_53 => ?_)
    have hf := letb_at hf v_53 ev_53
    refine lv_istore_n (lv' := [(2, .int v_53), (0, .ref (ad 0)), (1, .int x1)]) hx hb dX5_change_36 rfl hl (by decide) rfl (fun ls hl => ?_)
    refine lv_iconst (v := (-1)) hx hb dX5_change_37 (by decide) ?_
    refine lv_istore_n (lv' := [(3, .int (-1 : Int32)), (2, .int v_53), (0, .ref (ad 0)), (1, .int x1)]) hx hb dX5_change_38 rfl hl (by decide) rfl (fun ls hl => ?_)
    refine lv_iconst (v := 0) hx hb dX5_change_39 (by decide) ?_
    refine lv_istore (lv' := [(4, .int (0 : Int32)), (3, .int (-1 : Int32)), (2, .int v_53), (0, .ref (ad 0)), (1, .int x1)]) hx hb dX5_change_40 hl (by decide) rfl (fun ls hl => ?_)
    exact lp_42 _ x1 v_53 (-1 : Int32) (0 : Int32) R2_51 F _ _ ls hf hH (lv_sub hl [3, 4, 2, 1, 0] rfl)
  · have hf := if_p hf c_48
    refine lv_aload_n hx hb dX5_change_10 rfl (lv_at hl 0 rfl) ?_
    refine lv_ldc hx hb hown (hT _ tw_4_12) dX5_change_11 ?_
    obtain ⟨r_54, F_55, hc_56, hf⟩ := bind2_inv hf
    refine aftI (runV C hE hA hH [0, 1, 2, 3, 4, 5, 6, 7, 8, 9, 10, 11, 12, 13, 14, 15, 16, 17, 18, 19, 20, 21, 22, 23, 24, 25, 26, 27, 28, 29, 30, 31, 32, 33] nC_X_X_0_33 (sC_X_X_0_33 g ad R1 R2 R3 K T SN SZ F) (kX5_tell l g ad _ R1 R2 R3 K T SN SZ F (-1000000001 : Int32) r_54 F_55  hc_56) tw_4_17 tw_4_18 tw_4_19 tw_1_2 tw_4_20 hdX5_tell 0 rfl rfl rfl rfl ⟨Nat.le_of_ble_eq_true rfl, Nat.le_of_ble_eq_true rfl⟩ rfl hl.1 (rest := []) rfl (Nat.le_of_ble_eq_true rfl) dX5_change_13 ⟨Nat.zero_le _, Nat.zero_le _⟩) hA hH [0, 1, 2, 3, 4, 5, 6, 7, 8, 9, 10, 11, 12, 13, 14, 15, 16, 17, 18, 19, 20, 21, 22, 23, 24, 25, 26, 27, 28, 29, 30, 31, 32, 33] [] (sC_X_X_0_33 g ad R1 R2 R3 K T SN SZ F) (sR_X_X_0_33 g ad R1 R2 R3 K T SN SZ F) nR_X_X_0_33 dj_X_X_0_33 [0, 1, 2, 3, 4, 5, 6, 7, 8, 9, 10, 11, 12, 13, 14, 15, 16, 17, 18, 19, 20, 21, 22, 23, 24, 25, 26, 27, 28, 29, 30, 31, 32, 33] nP_X_X_0_33 (sP_X_X_0_33 g ad R1 R2 R3 K T SN SZ F R1 R2 R3 K T SN SZ F_55) (fun H locs hH => ?_)
    have hf := Option.some.inj hf
    obtain ⟨h1, hf⟩ := Prod.mk.inj hf
    obtain ⟨h2, h3⟩ := Prod.mk.inj hf
    subst h1
    subst h2
    subst h3
    exact retI C hH rfl dX5_change_16
def fX5_heard_c18  (R1 : M2) (R2 : M2) (R3 : M2) (K : Int32) (T : M2) (SN : J2) (SZ : M2) (F : M1) : Option (Int32 × M2 × M1) := bind2 (fX5_tell (-1000000001 : Int32) R1 R2 R3 K T SN SZ F) (fun (r_16 : Int32) (F_17 : M1) => some (r_16, R2, F_17))
def fX5_heard (x1 : Int32) (x2 : Int32) (R1 : M2) (R2 : M2) (R3 : M2) (K : Int32) (T : M2) (SN : J2) (SZ : M2) (F : M1) : Option (Int32 × M2 × M1) := (fX5_isWord x1).bind (fun (r_19 : Int32) => (if r_19 = 0 then fX5_heard_c18  R1 R2 R3 K T SN SZ F else (fX5_within x2 (0 : Int32) (200 : Int32)).bind (fun (r_22 : Int32) => (if r_22 = 0 then fX5_heard_c18  R1 R2 R3 K T SN SZ F else (fX5_startTrial R1 R2 R3 K T SN SZ F).bind (fun (R2_25 : M2) => (fX1_passDays x2 R2_25).bind (fun (R2_27 : M2) => (fX1_countKnowing x1 R2_27).bind (fun (r_29 : Int32) => some (r_29, R2_27, F))))))))
def rmX5_heard : Room := { frames := 6, cells := 0, slots := 0, locals := 137 }
theorem hdX5_heard : yX5_heard.cls = yX5_heard.cls ∧ yX5_heard.cls ≠ "java/lang/invoke/MethodHandle" ∧ yX5_heard.cls ≠ "java/lang/invoke/VarHandle" ∧ (parseMethodDescriptor yX5_heard.desc).map (fun d => d.parameters.length) = some 2 := by decide +kernel
set_option maxHeartbeats 4000000 in
set_option maxRecDepth 100000 in
theorem kX5_heard (l : Launch) (g : Gl) (ad : Nat → Nat) (sz : Nat) (R1 : M2) (R2 : M2) (R3 : M2) (K : Int32) (T : M2) (SN : J2) (SZ : M2) (F : M1) (x1 : Int32) (x2 : Int32) (r : Int32) (R2' : M2) (F' : M1)  (hf : fX5_heard x1 x2 R1 R2 R3 K T SN SZ F = some (r, R2', F')) : MetI l yX5_heard (Cond.code yX5_heard cX5_heard 3 (some .int) :: wsL_law) rmX5_heard [.ref (ad 0), .int x1, .int x2] g (wX g ad R1 R2 R3 K T SN SZ F) sz r (wX g ad R1 R2' R3 K T SN SZ F') := by
  refine openI (by decide +kernel) (Nat.le_of_ble_eq_true rfl) ?_
  intro p e s m args below meth c A C hE hA hH ls hl
  have hl : lv_has ls 3 [(0, .ref (ad 0)), (1, .int x1), (2, .int x2)] := hl
  have C : Cx p s m args meth c cX5_heard 3 (some .int) RX5 := C
  obtain ⟨hx, hb, hml, hown, hT, hr, hlk⟩ := id C
  rw [fX5_heard] at hf
  have j_18 : ∀ (R2 : M2) (F : M1) (H : Heap) (locs : List Loc) (ls : Array Slot), fX5_heard_c18  R1 R2 R3 K T SN SZ F = some (r, R2', F') → Hp g A s H locs (wX g ad R1 R2 R3 K T SN SZ F) → lv_has ls 3 [(0, .ref (ad 0))] → W p l e rmX5_heard s m args below meth c H locs 0 0 (QI g A below args s r (wX g ad R1 R2' R3 K T SN SZ F')) (F0 m 18 ls []) := by
    intro R2 F H locs  ls hf hH hl
    rw [fX5_heard_c18] at hf
    refine lv_aload_n hx hb dX5_heard_18 rfl (lv_at hl 0 rfl) ?_
    refine lv_ldc hx hb hown (hT _ tw_4_12) dX5_heard_19 ?_
    obtain ⟨r_16, F_17, hc_18, hf⟩ := bind2_inv hf
    refine aftI (runV C hE hA hH [0, 1, 2, 3, 4, 5, 6, 7, 8, 9, 10, 11, 12, 13, 14, 15, 16, 17, 18, 19, 20, 21, 22, 23, 24, 25, 26, 27, 28, 29, 30, 31, 32, 33] nC_X_X_0_33 (sC_X_X_0_33 g ad R1 R2 R3 K T SN SZ F) (kX5_tell l g ad _ R1 R2 R3 K T SN SZ F (-1000000001 : Int32) r_16 F_17  hc_18) tw_4_17 tw_4_18 tw_4_19 tw_1_2 tw_4_20 hdX5_tell 0 rfl rfl rfl rfl ⟨Nat.le_of_ble_eq_true rfl, Nat.le_of_ble_eq_true rfl⟩ rfl hl.1 (rest := []) rfl (Nat.le_of_ble_eq_true rfl) dX5_heard_21 ⟨Nat.zero_le _, Nat.zero_le _⟩) hA hH [0, 1, 2, 3, 4, 5, 6, 7, 8, 9, 10, 11, 12, 13, 14, 15, 16, 17, 18, 19, 20, 21, 22, 23, 24, 25, 26, 27, 28, 29, 30, 31, 32, 33] [] (sC_X_X_0_33 g ad R1 R2 R3 K T SN SZ F) (sR_X_X_0_33 g ad R1 R2 R3 K T SN SZ F) nR_X_X_0_33 dj_X_X_0_33 [0, 1, 2, 3, 4, 5, 6, 7, 8, 9, 10, 11, 12, 13, 14, 15, 16, 17, 18, 19, 20, 21, 22, 23, 24, 25, 26, 27, 28, 29, 30, 31, 32, 33] nP_X_X_0_33 (sP_X_X_0_33 g ad R1 R2 R3 K T SN SZ F R1 R2 R3 K T SN SZ F_17) (fun H locs hH => ?_)
    have hf := Option.some.inj hf
    obtain ⟨h1, hf⟩ := Prod.mk.inj hf
    obtain ⟨h2, h3⟩ := Prod.mk.inj hf
    subst h1
    subst h2
    subst h3
    exact retI C hH rfl dX5_heard_24
  refine lv_iload_n hx hb dX5_heard_0 rfl (lv_at hl 1 rfl) ?_
  obtain ⟨r_19, hc_20, hf⟩ := bind_inv hf
  refine aftPI (runS C hE hA hH [] rfl rfl (kX5_isWord l g ad _ x1 r_19  hc_20) tw_21_2 tw_21_3 tw_1_2 tw_21_4 hdX5_isWord rfl rfl ⟨Nat.le_of_ble_eq_true rfl, Nat.le_of_ble_eq_true rfl⟩ rfl hl.1 (rest := []) rfl (Nat.le_of_ble_eq_true rfl) dX5_heard_1 ⟨Nat.zero_le _, Nat.zero_le _⟩) ?_
  refine lv_if_eq (tgt := 18) hx hb dX5_heard_4 (by decide) (fun c_21 => ?_) (fun c_21 => ?_)
  · have hf := if_p hf c_21
    exact j_18 R2 F _ _ ls hf hH (lv_sub hl [0] rfl)
  · have hf := if_n hf c_21
    refine lv_iload_n hx hb dX5_heard_7 rfl (lv_at hl 2 rfl) ?_
    refine lv_iconst (v := 0) hx hb dX5_heard_8 (by decide) ?_
    refine lv_sipush (v := 200) hx hb dX5_heard_9 (by decide) ?_
    obtain ⟨r_22, hc_23, hf⟩ := bind_inv hf
    refine aftPI (runS C hE hA hH [] rfl rfl (kX5_within l g ad _ x2 (0 : Int32) (200 : Int32) r_22  hc_23) tw_4_14 tw_4_15 tw_1_2 tw_4_16 hdX5_within rfl rfl ⟨Nat.le_of_ble_eq_true rfl, Nat.le_of_ble_eq_true rfl⟩ rfl hl.1 (rest := []) rfl (Nat.le_of_ble_eq_true rfl) dX5_heard_12 ⟨Nat.zero_le _, Nat.zero_le _⟩) ?_
    refine lv_if_ne (tgt := 25) hx hb dX5_heard_15 (by decide) (fun c_24 => ?_) (fun c_24 => ?_)
    · have hf := if_n hf c_24
      refine lv_aload_n hx hb dX5_heard_25 rfl (lv_at hl 0 rfl) ?_
      obtain ⟨R2_25, hc_26, hf⟩ := bind_inv hf
      refine aftV (runV C hE hA hH [0, 1, 2, 3, 4, 5, 6, 7, 8, 9, 10, 11, 12, 13, 14, 15, 16, 17, 18, 19, 20, 21, 22, 23, 24, 25, 26, 27, 28, 29, 30, 31, 32, 33] nC_X_X_0_33 (sC_X_X_0_33 g ad R1 R2 R3 K T SN SZ F) (kX5_startTrial l g ad _ R1 R2 R3 K T SN SZ F R2_25  hc_26) tw_18_14 tw_18_15 tw_18_16 tw_1_2 tw_18_17 hdX5_startTrial 0 rfl rfl rfl rfl ⟨Nat.le_of_ble_eq_true rfl, Nat.le_of_ble_eq_true rfl⟩ rfl hl.1 (rest := []) rfl (Nat.le_of_ble_eq_true rfl) dX5_heard_26 ⟨Nat.zero_le _, Nat.zero_le _⟩) hA hH [0, 1, 2, 3, 4, 5, 6, 7, 8, 9, 10, 11, 12, 13, 14, 15, 16, 17, 18, 19, 20, 21, 22, 23, 24, 25, 26, 27, 28, 29, 30, 31, 32, 33] [] (sC_X_X_0_33 g ad R1 R2 R3 K T SN SZ F) (sR_X_X_0_33 g ad R1 R2 R3 K T SN SZ F) nR_X_X_0_33 dj_X_X_0_33 [0, 1, 2, 3, 4, 5, 6, 7, 8, 9, 10, 11, 12, 13, 14, 15, 16, 17, 18, 19, 20, 21, 22, 23, 24, 25, 26, 27, 28, 29, 30, 31, 32, 33] nP_X_X_0_33 (sP_X_X_0_33 g ad R1 R2 R3 K T SN SZ F R1 R2_25 R3 K T SN SZ F) (fun H locs hH => ?_)
      refine lv_aload_n hx hb dX5_heard_29 rfl (lv_at hl 0 rfl) ?_
      refine gf_RX5_16 C hE hH 0 rfl rfl dX5_heard_30 ?_
      refine lv_iload_n hx hb dX5_heard_33 rfl (lv_at hl 2 rfl) ?_
      obtain ⟨R2_27, hc_28, hf⟩ := bind_inv hf
      refine aftV (runV C hE hA hH [8, 9, 10, 11, 12, 13, 14] nC_X_L_8_14 (sC_X_L_8_14 g ad R1 R2_25 R3 K T SN SZ F) (kX1_passDays l g (fun k => ad (8 + k)) _ R2_25 x2 R2_27  hc_28) tw_14_1 tw_14_2 tw_14_3 tw_1_15 tw_14_4 hdX1_passDays 8 rfl rfl rfl rfl ⟨Nat.le_of_ble_eq_true rfl, Nat.le_of_ble_eq_true rfl⟩ rfl hl.1 (rest := []) rfl (Nat.le_of_ble_eq_true rfl) dX5_heard_34 ⟨Nat.zero_le _, Nat.zero_le _⟩) hA hH [8, 9, 10, 11, 12, 13, 14] [0, 1, 2, 3, 4, 5, 6, 7, 15, 16, 17, 18, 19, 20, 21, 22, 23, 24, 25, 26, 27, 28, 29, 30, 31, 32, 33] (sC_X_L_8_14 g ad R1 R2_25 R3 K T SN SZ F) (sR_X_L_8_14 g ad R1 R2_25 R3 K T SN SZ F) nR_X_L_8_14 dj_X_L_8_14 [0, 1, 2, 3, 4, 5, 6, 7, 27, 28, 29, 30, 31, 32, 33, 8, 9, 10, 11, 12, 13, 14, 15, 16, 17, 18, 19, 20, 21, 22, 23, 24, 25, 26] nP_X_L_8_14 (sP_X_L_8_14 g ad R1 R2_25 R3 K T SN SZ F R2_27) (fun H locs hH => ?_)
      refine lv_aload_n hx hb dX5_heard_37 rfl (lv_at hl 0 rfl) ?_
      refine gf_RX5_16 C hE hH 0 rfl rfl dX5_heard_38 ?_
      refine lv_iload_n hx hb dX5_heard_41 rfl (lv_at hl 1 rfl) ?_
      obtain ⟨r_29, hc_30, hf⟩ := bind_inv hf
      refine aftPI (runV C hE hA hH [8, 9, 10, 11, 12, 13, 14] nC_X_L_8_14 (sC_X_L_8_14 g ad R1 R2_27 R3 K T SN SZ F) (kX1_countKnowing l g (fun k => ad (8 + k)) _ R2_27 x1 r_29  hc_30) tw_25_10 tw_25_11 tw_25_12 tw_1_15 tw_25_13 hdX1_countKnowing 8 rfl rfl rfl rfl ⟨Nat.le_of_ble_eq_true rfl, Nat.le_of_ble_eq_true rfl⟩ rfl hl.1 (rest := []) rfl (Nat.le_of_ble_eq_true rfl) dX5_heard_42 ⟨Nat.zero_le _, Nat.zero_le _⟩) ?_
      have hf := Option.some.inj hf
      obtain ⟨h1, hf⟩ := Prod.mk.inj hf
      obtain ⟨h2, h3⟩ := Prod.mk.inj hf
      subst h1
      subst h2
      subst h3
      exact retI C hH rfl dX5_heard_45
    · have hf := if_p hf c_24
      exact j_18 R2 F _ _ ls hf hH (lv_sub hl [0] rfl)
def fX5_feed_c68  (R1 : M2) (R2 : M2) (R3 : M2) (K : Int32) (T : M2) (SN : J2) (SZ : M2) (F : M1) : Option (Int32 × M2 × M1) := some (T 0 0, T, F)
def fX5_feed_c41  : Nat → Int32 → Int32 → M2 → M2 → M2 → Int32 → M2 → J2 → M2 → M1 → Option (Int32 × M2 × M1)
  | 0, _, _, _, _, _, _, _, _, _, _ => none
  | n + 1, y1, y3, R1, R2, R3, K, T, SN, SZ, F => (if y3 < 0 then fX5_feed_c68  R1 R2 R3 K T SN SZ F else (fX3_append (((y1.toUInt32 >>> (((8 : Int32) * y3).toUInt32 &&& Int32.toUInt32 31)).toInt32) &&& (255 : Int32)) T).bind (fun (T_17 : M2) => letb (y3 + (-1 : Int32)) (fun v_19 : Int32 => fX5_feed_c41 n y1 v_19 R1 R2 R3 K T_17 SN SZ F)))
def fX5_feed (x1 : Int32) (x2 : Int32) (R1 : M2) (R2 : M2) (R3 : M2) (K : Int32) (T : M2) (SN : J2) (SZ : M2) (F : M1) : Option (Int32 × M2 × M1) := (fX5_within x2 (1 : Int32) (4 : Int32)).bind (fun (r_20 : Int32) => (if r_20 = 0 then bind2 (fX5_tell (-1000000001 : Int32) R1 R2 R3 K T SN SZ F) (fun (r_28 : Int32) (F_29 : M1) => some (r_28, T, F_29)) else (if ((T 0 0) + x2) ≤ (120 : Int32) then letb (x2 - (1 : Int32)) (fun v_24 : Int32 => fX5_feed_c41  FU x1 v_24 R1 R2 R3 K T SN SZ F) else bind2 (fX5_tell (-1000000002 : Int32) R1 R2 R3 K T SN SZ F) (fun (r_25 : Int32) (F_26 : M1) => some (r_25, T, F_26)))))
def rmX5_feed : Room := { frames := 2, cells := 0, slots := 0, locals := 44 }
theorem hdX5_feed : yX5_feed.cls = yX5_feed.cls ∧ yX5_feed.cls ≠ "java/lang/invoke/MethodHandle" ∧ yX5_feed.cls ≠ "java/lang/invoke/VarHandle" ∧ (parseMethodDescriptor yX5_feed.desc).map (fun d => d.parameters.length) = some 2 := by decide +kernel
set_option maxHeartbeats 4000000 in
set_option maxRecDepth 100000 in
theorem kX5_feed (l : Launch) (g : Gl) (ad : Nat → Nat) (sz : Nat) (R1 : M2) (R2 : M2) (R3 : M2) (K : Int32) (T : M2) (SN : J2) (SZ : M2) (F : M1) (x1 : Int32) (x2 : Int32) (r : Int32) (T' : M2) (F' : M1)  (hf : fX5_feed x1 x2 R1 R2 R3 K T SN SZ F = some (r, T', F')) : MetI l yX5_feed (Cond.code yX5_feed cX5_feed 4 (some .int) :: wsL_law) rmX5_feed [.ref (ad 0), .int x1, .int x2] g (wX g ad R1 R2 R3 K T SN SZ F) sz r (wX g ad R1 R2 R3 K T' SN SZ F') := by
  refine openI (by decide +kernel) (Nat.le_of_ble_eq_true rfl) ?_
  intro p e s m args below meth c A C hE hA hH ls hl
  have hl : lv_has ls 4 [(0, .ref (ad 0)), (1, .int x1), (2, .int x2)] := hl
  have C : Cx p s m args meth c cX5_feed 4 (some .int) RX5 := C
  obtain ⟨hx, hb, hml, hown, hT, hr, hlk⟩ := id C
  rw [fX5_feed] at hf
  have lp_41 : ∀ (n_41 : Nat) (y1 : Int32) (y3 : Int32) (T : M2) (F : M1) (H : Heap) (locs : List Loc) (ls : Array Slot), fX5_feed_c41  n_41 y1 y3 R1 R2 R3 K T SN SZ F = some (r, T', F') → Hp g A s H locs (wX g ad R1 R2 R3 K T SN SZ F) → lv_has ls 4 [(0, .ref (ad 0)), (1, .int y1), (3, .int y3)] → W p l e rmX5_feed s m args below meth c H locs 0 0 (QI g A below args s r (wX g ad R1 R2 R3 K T' SN SZ F')) (F0 m 41 ls []) := by
    intro n_41
    induction n_41 with
    | zero =>
      intro y1 y3 T F H locs  ls hf hH hl
      rw [fX5_feed_c41] at hf
      cases hf
    | succ n_41 ih_41 =>
      intro y1 y3 T F H locs  ls hf hH hl
      rw [fX5_feed_c41] at hf
      have j_68 : ∀ (T : M2) (F : M1) (H : Heap) (locs : List Loc) (ls : Array Slot), fX5_feed_c68  R1 R2 R3 K T SN SZ F = some (r, T', F') → Hp g A s H locs (wX g ad R1 R2 R3 K T SN SZ F) → lv_has ls 4 [(0, .ref (ad 0))] → W p l e rmX5_feed s m args below meth c H locs 0 0 (QI g A below args s r (wX g ad R1 R2 R3 K T' SN SZ F')) (F0 m 68 ls []) := by
        intro T F H locs  ls hf hH hl
        rw [fX5_feed_c68] at hf
        refine lv_aload_n hx hb dX5_feed_68 rfl (lv_at hl 0 rfl) ?_
        refine gf_RX5_29 C hE hH 0 rfl rfl dX5_feed_69 ?_
        refine gf_RX5_201 C hE hH 22 rfl rfl dX5_feed_72 ?_
        have hf := Option.some.inj hf
        obtain ⟨h1, hf⟩ := Prod.mk.inj hf
        obtain ⟨h2, h3⟩ := Prod.mk.inj hf
        subst h1
        subst h2
        subst h3
        exact retI C hH rfl dX5_feed_75
      refine lv_iload_n hx hb dX5_feed_41 rfl (lv_at hl 2 rfl) ?_
      refine lv_if_lt (tgt := 68) hx hb dX5_feed_42 (by decide) (fun c_16 => ?_) (fun c_16 => ?_)
      · have hf := if_p hf c_16
        exact j_68 T F _ _ ls hf hH (lv_sub hl [0] rfl)
      · have hf := if_n hf c_16
        refine lv_aload_n hx hb dX5_feed_45 rfl (lv_at hl 0 rfl) ?_
        refine gf_RX5_29 C hE hH 0 rfl rfl dX5_feed_46 ?_
        refine lv_iload_n hx hb dX5_feed_49 rfl (lv_at hl 1 rfl) ?_
        refine lv_bipush (v := 8) hx hb dX5_feed_50 (by decide) ?_
        refine lv_iload_n hx hb dX5_feed_52 rfl (lv_at hl 2 rfl) ?_
        refine lv_imul hx hb dX5_feed_53 ?_
        refine lv_iushr hx hb dX5_feed_54 rfl ?_
        refine lv_sipush (v := 255) hx hb dX5_feed_55 (by decide) ?_
        refine lv_iand hx hb dX5_feed_58 ?_
        obtain ⟨T_17, hc_18, hf⟩ := bind_inv hf
        refine aftV (runV C hE hA hH [22, 23] nC_X_T_22_23 (sC_X_T_22_23 g ad R1 R2 R3 K T SN SZ F) (kX3_append l g (fun k => ad (22 + k)) _ T (((y1.toUInt32 >>> (((8 : Int32) * y3).toUInt32 &&& Int32.toUInt32 31)).toInt32) &&& (255 : Int32)) T_17  hc_18) tw_26_0 tw_26_1 tw_26_2 tw_1_22 tw_26_3 hdX3_append 22 rfl rfl rfl rfl ⟨Nat.le_of_ble_eq_true rfl, Nat.le_of_ble_eq_true rfl⟩ rfl hl.1 (rest := []) rfl (Nat.le_of_ble_eq_true rfl) dX5_feed_59 ⟨Nat.zero_le _, Nat.zero_le _⟩) hA hH [22, 23] [0, 1, 2, 3, 4, 5, 6, 7, 8, 9, 10, 11, 12, 13, 14, 15, 16, 17, 18, 19, 20, 21, 24, 25, 26, 27, 28, 29, 30, 31, 32, 33] (sC_X_T_22_23 g ad R1 R2 R3 K T SN SZ F) (sR_X_T_22_23 g ad R1 R2 R3 K T SN SZ F) nR_X_T_22_23 dj_X_T_22_23 [0, 1, 2, 3, 4, 5, 6, 7, 8, 9, 10, 11, 12, 13, 14, 15, 16, 17, 18, 19, 20, 21, 32, 33, 22, 23, 24, 25, 26, 27, 28, 29, 30, 31] nP_X_T_22_23 (sP_X_T_22_23 g ad R1 R2 R3 K T SN SZ F T_17) (fun H locs hH => ?_)
        obtain ⟨v_19, ev_19⟩ : ∃ z : Int32, z = y3 + (-1 : Int32) := ⟨_, rfl⟩
        have hf := letb_at hf v_19 ev_19
        refine lv_iinc (v := v_19) (lv' := [(3, .int v_19), (0, .ref (ad 0)), (1, .int y1)]) hx hb dX5_feed_62 hl (k := 2) rfl (by rw [ev_19]; rfl) (by decide) rfl (fun ls hl => ?_)
        refine lv_goto (tgt := 41) hx hb dX5_feed_65 (by decide) ?_
        exact ih_41 y1 v_19 T_17 F _ _ ls hf hH (lv_sub hl [1, 2, 0] rfl)
  refine lv_iload_n hx hb dX5_feed_0 rfl (lv_at hl 2 rfl) ?_
  refine lv_iconst (v := 1) hx hb dX5_feed_1 (by decide) ?_
  refine lv_iconst (v := 4) hx hb dX5_feed_2 (by decide) ?_
  obtain ⟨r_20, hc_21, hf⟩ := bind_inv hf
  refine aftPI (runS C hE hA hH [] rfl rfl (kX5_within l g ad _ x2 (1 : Int32) (4 : Int32) r_20  hc_21) tw_4_14 tw_4_15 tw_1_2 tw_4_16 hdX5_within rfl rfl ⟨Nat.le_of_ble_eq_true rfl, Nat.le_of_ble_eq_true rfl⟩ rfl hl.1 (rest := []) rfl (Nat.le_of_ble_eq_true rfl) dX5_feed_3 ⟨Nat.zero_le _, Nat.zero_le _⟩) ?_
  refine lv_if_ne (tgt := 16) hx hb dX5_feed_6 (by decide) (fun c_22 => ?_) (fun c_22 => ?_)
  · have hf := if_n hf c_22
    refine lv_aload_n hx hb dX5_feed_16 rfl (lv_at hl 0 rfl) ?_
    refine gf_RX5_29 C hE hH 0 rfl rfl dX5_feed_17 ?_
    refine gf_RX5_201 C hE hH 22 rfl rfl dX5_feed_20 ?_
    refine lv_iload_n hx hb dX5_feed_23 rfl (lv_at hl 2 rfl) ?_
    refine lv_iadd hx hb dX5_feed_24 ?_
    refine lv_bipush (v := 120) hx hb dX5_feed_25 (by decide) ?_
    refine lv_icmp_le (tgt := 37) hx hb dX5_feed_27 (by decide) (fun c_23 => ?_) (fun c_23 => ?_)
    · have hf := if_p hf c_23
      refine lv_iload_n hx hb dX5_feed_37 rfl (lv_at hl 2 rfl) ?_
      refine lv_iconst (v := 1) hx hb dX5_feed_38 (by decide) ?_
      refine lv_isub hx hb dX5_feed_39 ?_
      refine lv_topi (fun v_24 ev_24 => ?_)
      have hf := letb_at hf v_24 ev_24
      refine lv_istore_n (lv' := [(3, .int v_24), (0, .ref (ad 0)), (1, .int x1), (2, .int x2)]) hx hb dX5_feed_40 rfl hl (by decide) rfl (fun ls hl => ?_)
      exact lp_41 _ x1 v_24 T F _ _ ls hf hH (lv_sub hl [1, 2, 0] rfl)
    · have hf := if_n hf c_23
      refine lv_aload_n hx hb dX5_feed_30 rfl (lv_at hl 0 rfl) ?_
      refine lv_ldc hx hb hown (hT _ tw_7_16) dX5_feed_31 ?_
      obtain ⟨r_25, F_26, hc_27, hf⟩ := bind2_inv hf
      refine aftI (runV C hE hA hH [0, 1, 2, 3, 4, 5, 6, 7, 8, 9, 10, 11, 12, 13, 14, 15, 16, 17, 18, 19, 20, 21, 22, 23, 24, 25, 26, 27, 28, 29, 30, 31, 32, 33] nC_X_X_0_33 (sC_X_X_0_33 g ad R1 R2 R3 K T SN SZ F) (kX5_tell l g ad _ R1 R2 R3 K T SN SZ F (-1000000002 : Int32) r_25 F_26  hc_27) tw_4_17 tw_4_18 tw_4_19 tw_1_2 tw_4_20 hdX5_tell 0 rfl rfl rfl rfl ⟨Nat.le_of_ble_eq_true rfl, Nat.le_of_ble_eq_true rfl⟩ rfl hl.1 (rest := []) rfl (Nat.le_of_ble_eq_true rfl) dX5_feed_33 ⟨Nat.zero_le _, Nat.zero_le _⟩) hA hH [0, 1, 2, 3, 4, 5, 6, 7, 8, 9, 10, 11, 12, 13, 14, 15, 16, 17, 18, 19, 20, 21, 22, 23, 24, 25, 26, 27, 28, 29, 30, 31, 32, 33] [] (sC_X_X_0_33 g ad R1 R2 R3 K T SN SZ F) (sR_X_X_0_33 g ad R1 R2 R3 K T SN SZ F) nR_X_X_0_33 dj_X_X_0_33 [0, 1, 2, 3, 4, 5, 6, 7, 8, 9, 10, 11, 12, 13, 14, 15, 16, 17, 18, 19, 20, 21, 22, 23, 24, 25, 26, 27, 28, 29, 30, 31, 32, 33] nP_X_X_0_33 (sP_X_X_0_33 g ad R1 R2 R3 K T SN SZ F R1 R2 R3 K T SN SZ F_26) (fun H locs hH => ?_)
      have hf := Option.some.inj hf
      obtain ⟨h1, hf⟩ := Prod.mk.inj hf
      obtain ⟨h2, h3⟩ := Prod.mk.inj hf
      subst h1
      subst h2
      subst h3
      exact retI C hH rfl dX5_feed_36
  · have hf := if_p hf c_22
    refine lv_aload_n hx hb dX5_feed_9 rfl (lv_at hl 0 rfl) ?_
    refine lv_ldc hx hb hown (hT _ tw_4_12) dX5_feed_10 ?_
    obtain ⟨r_28, F_29, hc_30, hf⟩ := bind2_inv hf
    refine aftI (runV C hE hA hH [0, 1, 2, 3, 4, 5, 6, 7, 8, 9, 10, 11, 12, 13, 14, 15, 16, 17, 18, 19, 20, 21, 22, 23, 24, 25, 26, 27, 28, 29, 30, 31, 32, 33] nC_X_X_0_33 (sC_X_X_0_33 g ad R1 R2 R3 K T SN SZ F) (kX5_tell l g ad _ R1 R2 R3 K T SN SZ F (-1000000001 : Int32) r_28 F_29  hc_30) tw_4_17 tw_4_18 tw_4_19 tw_1_2 tw_4_20 hdX5_tell 0 rfl rfl rfl rfl ⟨Nat.le_of_ble_eq_true rfl, Nat.le_of_ble_eq_true rfl⟩ rfl hl.1 (rest := []) rfl (Nat.le_of_ble_eq_true rfl) dX5_feed_12 ⟨Nat.zero_le _, Nat.zero_le _⟩) hA hH [0, 1, 2, 3, 4, 5, 6, 7, 8, 9, 10, 11, 12, 13, 14, 15, 16, 17, 18, 19, 20, 21, 22, 23, 24, 25, 26, 27, 28, 29, 30, 31, 32, 33] [] (sC_X_X_0_33 g ad R1 R2 R3 K T SN SZ F) (sR_X_X_0_33 g ad R1 R2 R3 K T SN SZ F) nR_X_X_0_33 dj_X_X_0_33 [0, 1, 2, 3, 4, 5, 6, 7, 8, 9, 10, 11, 12, 13, 14, 15, 16, 17, 18, 19, 20, 21, 22, 23, 24, 25, 26, 27, 28, 29, 30, 31, 32, 33] nP_X_X_0_33 (sP_X_X_0_33 g ad R1 R2 R3 K T SN SZ F R1 R2 R3 K T SN SZ F_29) (fun H locs hH => ?_)
    have hf := Option.some.inj hf
    obtain ⟨h1, hf⟩ := Prod.mk.inj hf
    obtain ⟨h2, h3⟩ := Prod.mk.inj hf
    subst h1
    subst h2
    subst h3
    exact retI C hH rfl dX5_feed_15
def fX5_wipe (R1 : M2) (R2 : M2) (R3 : M2) (K : Int32) (T : M2) (SN : J2) (SZ : M2) (F : M1) : Option (Int32 × M2) := letb (T 0 0) (fun v_3 : Int32 => letb (st2 T 0 (upd (T 0) 0 (0 : Int32))) (fun T_4 : M2 => some (v_3, T_4)))
def rmX5_wipe : Room := { frames := 0, cells := 0, slots := 0, locals := 0 }
theorem hdX5_wipe : yX5_wipe.cls = yX5_wipe.cls ∧ yX5_wipe.cls ≠ "java/lang/invoke/MethodHandle" ∧ yX5_wipe.cls ≠ "java/lang/invoke/VarHandle" ∧ (parseMethodDescriptor yX5_wipe.desc).map (fun d => d.parameters.length) = some 0 := by decide +kernel
set_option maxHeartbeats 4000000 in
set_option maxRecDepth 100000 in
theorem kX5_wipe (l : Launch) (g : Gl) (ad : Nat → Nat) (sz : Nat) (R1 : M2) (R2 : M2) (R3 : M2) (K : Int32) (T : M2) (SN : J2) (SZ : M2) (F : M1)  (r : Int32) (T' : M2)  (hf : fX5_wipe R1 R2 R3 K T SN SZ F = some (r, T')) : MetI l yX5_wipe (Cond.code yX5_wipe cX5_wipe 2 (some .int) :: wsL_law) rmX5_wipe [.ref (ad 0)] g (wX g ad R1 R2 R3 K T SN SZ F) sz r (wX g ad R1 R2 R3 K T' SN SZ F) := by
  refine openI (by decide +kernel) (Nat.le_of_ble_eq_true rfl) ?_
  intro p e s m args below meth c A C hE hA hH ls hl
  have hl : lv_has ls 2 [(0, .ref (ad 0))] := hl
  have C : Cx p s m args meth c cX5_wipe 2 (some .int) RX5 := C
  obtain ⟨hx, hb, hml, hown, hT, hr, hlk⟩ := id C
  rw [fX5_wipe] at hf
  refine lv_aload_n hx hb dX5_wipe_0 rfl (lv_at hl 0 rfl) ?_
  refine gf_RX5_29 C hE hH 0 rfl rfl dX5_wipe_1 ?_
  refine gf_RX5_201 C hE hH 22 rfl rfl dX5_wipe_4 ?_
  refine lv_topi (fun v_3 ev_3 => ?_)
  have hf := letb_at hf v_3 ev_3
  refine lv_istore_n (lv' := [(1, .int v_3), (0, .ref (ad 0))]) hx hb dX5_wipe_7 rfl hl (by decide) rfl (fun ls hl => ?_)
  refine lv_aload_n hx hb dX5_wipe_8 rfl (lv_at hl 1 rfl) ?_
  refine gf_RX5_29 C hE hH 0 rfl rfl dX5_wipe_9 ?_
  refine lv_iconst (v := 0) hx hb dX5_wipe_12 (by decide) ?_
  refine pf_RX5_201 C hE hH 22 rfl rfl rfl (Nat.le_of_ble_eq_true rfl) (fun q : M2 => wX g ad R1 R2 R3 K q SN SZ F) (st2 T 0 (upd (T 0) 0 (0 : Int32))) rfl dX5_wipe_13 (fun T_4 eT_4 H locs hH => ?_)
  have hf := letb_at hf T_4 eT_4
  refine lv_iload_n hx hb dX5_wipe_16 rfl (lv_at hl 0 rfl) ?_
  have hf := Option.some.inj hf
  obtain ⟨h1, h2⟩ := Prod.mk.inj hf
  subst h1
  subst h2
  exact retI C hH rfl dX5_wipe_17
def fX5_text_c31  (y1 : Int32) (R1 : M2) (R2 : M2) (R3 : M2) (K : Int32) (T : M2) (SN : J2) (SZ : M2) (F : M1) : Option (Int32 × M2 × M2 × M2) := letb (st2 T 0 (upd (T 0) 0 (0 : Int32))) (fun T_11 : M2 => some (y1, R1, R2, T_11))
def fX5_text (R1 : M2) (R2 : M2) (R3 : M2) (K : Int32) (T : M2) (SN : J2) (SZ : M2) (F : M1) : Option (Int32 × M2 × M2 × M2) := (fX5_startTrial R1 R2 R3 K T SN SZ F).bind (fun (R2_12 : M2) => bind3 (fX4_takeText T R2_12) (fun (r_14 : Int32) (T_15 : M2) (R2_16 : M2) => (if r_14 ≤ 0 then fX5_text_c31  r_14 R1 R2_16 R3 K T_15 SN SZ F else (fX1_becomeLike R1 R2_16).bind (fun (R1_19 : M2) => fX5_text_c31  r_14 R1_19 R2_16 R3 K T_15 SN SZ F))))
def rmX5_text : Room := { frames := 9, cells := 0, slots := 0, locals := 195 }
theorem hdX5_text : yX5_text.cls = yX5_text.cls ∧ yX5_text.cls ≠ "java/lang/invoke/MethodHandle" ∧ yX5_text.cls ≠ "java/lang/invoke/VarHandle" ∧ (parseMethodDescriptor yX5_text.desc).map (fun d => d.parameters.length) = some 0 := by decide +kernel
set_option maxHeartbeats 4000000 in
set_option maxRecDepth 100000 in
theorem kX5_text (l : Launch) (g : Gl) (ad : Nat → Nat) (sz : Nat) (R1 : M2) (R2 : M2) (R3 : M2) (K : Int32) (T : M2) (SN : J2) (SZ : M2) (F : M1)  (r : Int32) (R1' : M2) (R2' : M2) (T' : M2)  (hf : fX5_text R1 R2 R3 K T SN SZ F = some (r, R1', R2', T')) : MetI l yX5_text (Cond.code yX5_text cX5_text 2 (some .int) :: wsL_law) rmX5_text [.ref (ad 0)] g (wX g ad R1 R2 R3 K T SN SZ F) sz r (wX g ad R1' R2' R3 K T' SN SZ F) := by
  refine openI (by decide +kernel) (Nat.le_of_ble_eq_true rfl) ?_
  intro p e s m args below meth c A C hE hA hH ls hl
  have hl : lv_has ls 2 [(0, .ref (ad 0))] := hl
  have C : Cx p s m args meth c cX5_text 2 (some .int) RX5 := C
  obtain ⟨hx, hb, hml, hown, hT, hr, hlk⟩ := id C
  rw [fX5_text] at hf
  have j_31 : ∀ (y1 : Int32) (R1 : M2) (R2 : M2) (T : M2) (H : Heap) (locs : List Loc) (ls : Array Slot), fX5_text_c31  y1 R1 R2 R3 K T SN SZ F = some (r, R1', R2', T') → Hp g A s H locs (wX g ad R1 R2 R3 K T SN SZ F) → lv_has ls 2 [(0, .ref (ad 0)), (1, .int y1)] → W p l e rmX5_text s m args below meth c H locs 0 0 (QI g A below args s r (wX g ad R1' R2' R3 K T' SN SZ F)) (F0 m 31 ls []) := by
    intro y1 R1 R2 T H locs  ls hf hH hl
    rw [fX5_text_c31] at hf
    refine lv_aload_n hx hb dX5_text_31 rfl (lv_at hl 0 rfl) ?_
    refine gf_RX5_29 C hE hH 0 rfl rfl dX5_text_32 ?_
    refine lv_iconst (v := 0) hx hb dX5_text_35 (by decide) ?_
    refine pf_RX5_201 C hE hH 22 rfl rfl rfl (Nat.le_of_ble_eq_true rfl) (fun q : M2 => wX g ad R1 R2 R3 K q SN SZ F) (st2 T 0 (upd (T 0) 0 (0 : Int32))) rfl dX5_text_36 (fun T_11 eT_11 H locs hH => ?_)
    have hf := letb_at hf T_11 eT_11
    refine lv_iload_n hx hb dX5_text_39 rfl (lv_at hl 1 rfl) ?_
    have hf := Option.some.inj hf
    obtain ⟨h1, hf⟩ := Prod.mk.inj hf
    obtain ⟨h2, hf⟩ := Prod.mk.inj hf
    obtain ⟨h3, h4⟩ := Prod.mk.inj hf
    subst h1
    subst h2
    subst h3
    subst h4
    exact retI C hH rfl dX5_text_40
  refine lv_aload_n hx hb dX5_text_0 rfl (lv_at hl 0 rfl) ?_
  obtain ⟨R2_12, hc_13, hf⟩ := bind_inv hf
  refine aftV (runV C hE hA hH [0, 1, 2, 3, 4, 5, 6, 7, 8, 9, 10, 11, 12, 13, 14, 15, 16, 17, 18, 19, 20, 21, 22, 23, 24, 25, 26, 27, 28, 29, 30, 31, 32, 33] nC_X_X_0_33 (sC_X_X_0_33 g ad R1 R2 R3 K T SN SZ F) (kX5_startTrial l g ad _ R1 R2 R3 K T SN SZ F R2_12  hc_13) tw_18_14 tw_18_15 tw_18_16 tw_1_2 tw_18_17 hdX5_startTrial 0 rfl rfl rfl rfl ⟨Nat.le_of_ble_eq_true rfl, Nat.le_of_ble_eq_true rfl⟩ rfl hl.1 (rest := []) rfl (Nat.le_of_ble_eq_true rfl) dX5_text_1 ⟨Nat.zero_le _, Nat.zero_le _⟩) hA hH [0, 1, 2, 3, 4, 5, 6, 7, 8, 9, 10, 11, 12, 13, 14, 15, 16, 17, 18, 19, 20, 21, 22, 23, 24, 25, 26, 27, 28, 29, 30, 31, 32, 33] [] (sC_X_X_0_33 g ad R1 R2 R3 K T SN SZ F) (sR_X_X_0_33 g ad R1 R2 R3 K T SN SZ F) nR_X_X_0_33 dj_X_X_0_33 [0, 1, 2, 3, 4, 5, 6, 7, 8, 9, 10, 11, 12, 13, 14, 15, 16, 17, 18, 19, 20, 21, 22, 23, 24, 25, 26, 27, 28, 29, 30, 31, 32, 33] nP_X_X_0_33 (sP_X_X_0_33 g ad R1 R2 R3 K T SN SZ F R1 R2_12 R3 K T SN SZ F) (fun H locs hH => ?_)
  refine lv_aload_n hx hb dX5_text_4 rfl (lv_at hl 0 rfl) ?_
  refine gf_RX5_29 C hE hH 0 rfl rfl dX5_text_5 ?_
  refine lv_aload_n hx hb dX5_text_8 rfl (lv_at hl 0 rfl) ?_
  refine gf_RX5_16 C hE hH 0 rfl rfl dX5_text_9 ?_
  obtain ⟨r_14, T_15, R2_16, hc_17, hf⟩ := bind3_inv hf
  refine aftI (runS C hE hA hH [22, 23, 8, 9, 10, 11, 12, 13, 14] nC_X_TL_22_14 (sC_X_TL_22_14 g ad R1 R2_12 R3 K T SN SZ F) (kX4_takeText l g (fun k => ad (([22, 23, 8, 9, 10, 11, 12, 13, 14] : List Nat).getD k 0)) _ T R2_12 r_14 T_15 R2_16  hc_17) tw_26_21 tw_26_22 tw_26_23 tw_27_0 hdX4_takeText rfl rfl ⟨Nat.le_of_ble_eq_true rfl, Nat.le_of_ble_eq_true rfl⟩ rfl hl.1 (rest := []) rfl (Nat.le_of_ble_eq_true rfl) dX5_text_12 ⟨Nat.zero_le _, Nat.zero_le _⟩) hA hH [22, 23, 8, 9, 10, 11, 12, 13, 14] [0, 1, 2, 3, 4, 5, 6, 7, 15, 16, 17, 18, 19, 20, 21, 24, 25, 26, 27, 28, 29, 30, 31, 32, 33] (sC_X_TL_22_14 g ad R1 R2_12 R3 K T SN SZ F) (sR_X_TL_22_14 g ad R1 R2_12 R3 K T SN SZ F) nR_X_TL_22_14 dj_X_TL_22_14 [0, 1, 2, 3, 4, 5, 6, 7, 27, 28, 29, 30, 31, 32, 33, 8, 9, 10, 11, 12, 13, 14, 25, 26, 15, 16, 17, 18, 19, 20, 21, 22, 23, 24] nP_X_TL_22_14 (sP_X_TL_22_14 g ad R1 R2_12 R3 K T SN SZ F T_15 R2_16) (fun H locs hH => ?_)
  refine lv_istore_n (lv' := [(1, .int r_14), (0, .ref (ad 0))]) hx hb dX5_text_15 rfl hl (by decide) rfl (fun ls hl => ?_)
  refine lv_iload_n hx hb dX5_text_16 rfl (lv_at hl 0 rfl) ?_
  refine lv_if_le (tgt := 31) hx hb dX5_text_17 (by decide) (fun c_18 => ?_) (fun c_18 => ?_)
  · have hf := if_p hf c_18
    exact j_31 r_14 R1 R2_16 T_15 _ _ ls hf hH (lv_sub hl [1, 0] rfl)
  · have hf := if_n hf c_18
    refine lv_aload_n hx hb dX5_text_20 rfl (lv_at hl 1 rfl) ?_
    refine gf_RX5_10 C hE hH 0 rfl rfl dX5_text_21 ?_
    refine lv_aload_n hx hb dX5_text_24 rfl (lv_at hl 1 rfl) ?_
    refine gf_RX5_16 C hE hH 0 rfl rfl dX5_text_25 ?_
    obtain ⟨R1_19, hc_20, hf⟩ := bind_inv hf
    refine aftV (runV C hE hA hH [1, 2, 3, 4, 5, 6, 7, 8, 9, 10, 11, 12, 13, 14] nC_X_LL_1_14 (sC_X_LL_1_14 g ad R1 R2_16 R3 K T_15 SN SZ F) (kX1_becomeLike l g (fun k => ad (1 + k)) _ R1 R2_16 R1_19  hc_20) tw_18_18 tw_18_19 tw_18_20 tw_1_15 tw_18_21 hdX1_becomeLike 1 rfl rfl rfl rfl ⟨Nat.le_of_ble_eq_true rfl, Nat.le_of_ble_eq_true rfl⟩ rfl hl.1 (rest := []) rfl (Nat.le_of_ble_eq_true rfl) dX5_text_28 ⟨Nat.zero_le _, Nat.zero_le _⟩) hA hH [1, 2, 3, 4, 5, 6, 7, 8, 9, 10, 11, 12, 13, 14] [0, 15, 16, 17, 18, 19, 20, 21, 22, 23, 24, 25, 26, 27, 28, 29, 30, 31, 32, 33] (sC_X_LL_1_14 g ad R1 R2_16 R3 K T_15 SN SZ F) (sR_X_LL_1_14 g ad R1 R2_16 R3 K T_15 SN SZ F) nR_X_LL_1_14 dj_X_LL_1_14 [0, 20, 21, 22, 23, 24, 25, 26, 27, 28, 29, 30, 31, 32, 33, 1, 2, 3, 4, 5, 6, 7, 8, 9, 10, 11, 12, 13, 14, 15, 16, 17, 18, 19] nP_X_LL_1_14 (sP_X_LL_1_14 g ad R1 R2_16 R3 K T_15 SN SZ F R1_19 R2_16) (fun H locs hH => ?_)
    exact j_31 r_14 R1_19 R2_16 T_15 _ _ ls hf hH (lv_sub hl [1, 0] rfl)
def fX5_image (R1 : M2) (R2 : M2) (R3 : M2) (K : Int32) (T : M2) (SN : J2) (SZ : M2) (F : M1) : Option (Int32 × M2 × Int32) := (fX1_becomeLike R3 R1).bind (fun (R3_4 : M2) => letb ((1 : Int32)) (fun K_6 : Int32 => some ((1 : Int32), R3_4, K_6)))
def rmX5_image : Room := { frames := 2, cells := 0, slots := 0, locals := 47 }
theorem hdX5_image : yX5_image.cls = yX5_image.cls ∧ yX5_image.cls ≠ "java/lang/invoke/MethodHandle" ∧ yX5_image.cls ≠ "java/lang/invoke/VarHandle" ∧ (parseMethodDescriptor yX5_image.desc).map (fun d => d.parameters.length) = some 0 := by decide +kernel
set_option maxHeartbeats 4000000 in
set_option maxRecDepth 100000 in
theorem kX5_image (l : Launch) (g : Gl) (ad : Nat → Nat) (sz : Nat) (R1 : M2) (R2 : M2) (R3 : M2) (K : Int32) (T : M2) (SN : J2) (SZ : M2) (F : M1)  (r : Int32) (R3' : M2) (K' : Int32)  (hf : fX5_image R1 R2 R3 K T SN SZ F = some (r, R3', K')) : MetI l yX5_image (Cond.code yX5_image cX5_image 1 (some .int) :: wsL_law) rmX5_image [.ref (ad 0)] g (wX g ad R1 R2 R3 K T SN SZ F) sz r (wX g ad R1 R2 R3' K' T SN SZ F) := by
  refine openI (by decide +kernel) (Nat.le_of_ble_eq_true rfl) ?_
  intro p e s m args below meth c A C hE hA hH ls hl
  have hl : lv_has ls 1 [(0, .ref (ad 0))] := hl
  have C : Cx p s m args meth c cX5_image 1 (some .int) RX5 := C
  obtain ⟨hx, hb, hml, hown, hT, hr, hlk⟩ := id C
  rw [fX5_image] at hf
  refine lv_aload_n hx hb dX5_image_0 rfl (lv_at hl 0 rfl) ?_
  refine gf_RX5_19 C hE hH 0 rfl rfl dX5_image_1 ?_
  refine lv_aload_n hx hb dX5_image_4 rfl (lv_at hl 0 rfl) ?_
  refine gf_RX5_10 C hE hH 0 rfl rfl dX5_image_5 ?_
  obtain ⟨R3_4, hc_5, hf⟩ := bind_inv hf
  refine aftV (runV C hE hA hH [15, 16, 17, 18, 19, 20, 21, 1, 2, 3, 4, 5, 6, 7] nC_X_LL_15_7 (sC_X_LL_15_7 g ad R1 R2 R3 K T SN SZ F) (kX1_becomeLike l g (fun k => ad (([15, 16, 17, 18, 19, 20, 21, 1, 2, 3, 4, 5, 6, 7] : List Nat).getD k 0)) _ R3 R1 R3_4  hc_5) tw_18_18 tw_18_19 tw_18_20 tw_1_15 tw_18_21 hdX1_becomeLike 15 rfl rfl rfl rfl ⟨Nat.le_of_ble_eq_true rfl, Nat.le_of_ble_eq_true rfl⟩ rfl hl.1 (rest := []) rfl (Nat.le_of_ble_eq_true rfl) dX5_image_8 ⟨Nat.zero_le _, Nat.zero_le _⟩) hA hH [15, 16, 17, 18, 19, 20, 21, 1, 2, 3, 4, 5, 6, 7] [0, 8, 9, 10, 11, 12, 13, 14, 22, 23, 24, 25, 26, 27, 28, 29, 30, 31, 32, 33] (sC_X_LL_15_7 g ad R1 R2 R3 K T SN SZ F) (sR_X_LL_15_7 g ad R1 R2 R3 K T SN SZ F) nR_X_LL_15_7 dj_X_LL_15_7 [0, 27, 28, 29, 30, 31, 32, 33, 1, 2, 3, 4, 5, 6, 7, 20, 21, 22, 23, 24, 25, 26, 8, 9, 10, 11, 12, 13, 14, 15, 16, 17, 18, 19] nP_X_LL_15_7 (sP_X_LL_15_7 g ad R1 R2 R3 K T SN SZ F R3_4 R1) (fun H locs hH => ?_)
  refine lv_aload_n hx hb dX5_image_11 rfl (lv_at hl 0 rfl) ?_
  refine lv_iconst (v := 1) hx hb dX5_image_12 (by decide) ?_
  refine pf_RX5_22 C hE hH 0 rfl (by decide) (by decide) (Nat.le_of_ble_eq_true rfl) (fun q : Int32 => wX g ad R1 R2 R3_4 q T SN SZ F) ((1 : Int32)) rfl dX5_image_13 (fun K_6 eK_6 H locs hH => ?_)
  have hf := letb_at hf K_6 eK_6
  refine lv_iconst (v := 1) hx hb dX5_image_16 (by decide) ?_
  have hf := Option.some.inj hf
  obtain ⟨h1, hf⟩ := Prod.mk.inj hf
  obtain ⟨h2, h3⟩ := Prod.mk.inj hf
  subst h1
  subst h2
  subst h3
  exact retI C hH rfl dX5_image_17
def fX5_undo (R1 : M2) (R2 : M2) (R3 : M2) (K : Int32) (T : M2) (SN : J2) (SZ : M2) (F : M1) : Option (Int32 × M2 × M1) := (if K = 0 then bind2 (fX5_tell (-1000000004 : Int32) R1 R2 R3 K T SN SZ F) (fun (r_10 : Int32) (F_11 : M1) => some (r_10, R1, F_11)) else (fX1_becomeLike R1 R3).bind (fun (R1_8 : M2) => some (R1_8 0 6, R1_8, F)))
def rmX5_undo : Room := { frames := 2, cells := 0, slots := 0, locals := 47 }
theorem hdX5_undo : yX5_undo.cls = yX5_undo.cls ∧ yX5_undo.cls ≠ "java/lang/invoke/MethodHandle" ∧ yX5_undo.cls ≠ "java/lang/invoke/VarHandle" ∧ (parseMethodDescriptor yX5_undo.desc).map (fun d => d.parameters.length) = some 0 := by decide +kernel
set_option maxHeartbeats 4000000 in
set_option maxRecDepth 100000 in
theorem kX5_undo (l : Launch) (g : Gl) (ad : Nat → Nat) (sz : Nat) (R1 : M2) (R2 : M2) (R3 : M2) (K : Int32) (T : M2) (SN : J2) (SZ : M2) (F : M1)  (r : Int32) (R1' : M2) (F' : M1)  (hf : fX5_undo R1 R2 R3 K T SN SZ F = some (r, R1', F')) : MetI l yX5_undo (Cond.code yX5_undo cX5_undo 1 (some .int) :: wsL_law) rmX5_undo [.ref (ad 0)] g (wX g ad R1 R2 R3 K T SN SZ F) sz r (wX g ad R1' R2 R3 K T SN SZ F') := by
  refine openI (by decide +kernel) (Nat.le_of_ble_eq_true rfl) ?_
  intro p e s m args below meth c A C hE hA hH ls hl
  have hl : lv_has ls 1 [(0, .ref (ad 0))] := hl
  have C : Cx p s m args meth c cX5_undo 1 (some .int) RX5 := C
  obtain ⟨hx, hb, hml, hown, hT, hr, hlk⟩ := id C
  rw [fX5_undo] at hf
  refine lv_aload_n hx hb dX5_undo_0 rfl (lv_at hl 0 rfl) ?_
  refine gf_RX5_22 C hE hH 0 rfl rfl dX5_undo_1 ?_
  refine lv_if_ne (tgt := 14) hx hb dX5_undo_4 (by decide) (fun c_7 => ?_) (fun c_7 => ?_)
  · have hf := if_n hf c_7
    refine lv_aload_n hx hb dX5_undo_14 rfl (lv_at hl 0 rfl) ?_
    refine gf_RX5_10 C hE hH 0 rfl rfl dX5_undo_15 ?_
    refine lv_aload_n hx hb dX5_undo_18 rfl (lv_at hl 0 rfl) ?_
    refine gf_RX5_19 C hE hH 0 rfl rfl dX5_undo_19 ?_
    obtain ⟨R1_8, hc_9, hf⟩ := bind_inv hf
    refine aftV (runV C hE hA hH [1, 2, 3, 4, 5, 6, 7, 15, 16, 17, 18, 19, 20, 21] nC_X_LL_1_21 (sC_X_LL_1_21 g ad R1 R2 R3 K T SN SZ F) (kX1_becomeLike l g (fun k => ad (([1, 2, 3, 4, 5, 6, 7, 15, 16, 17, 18, 19, 20, 21] : List Nat).getD k 0)) _ R1 R3 R1_8  hc_9) tw_18_18 tw_18_19 tw_18_20 tw_1_15 tw_18_21 hdX1_becomeLike 1 rfl rfl rfl rfl ⟨Nat.le_of_ble_eq_true rfl, Nat.le_of_ble_eq_true rfl⟩ rfl hl.1 (rest := []) rfl (Nat.le_of_ble_eq_true rfl) dX5_undo_22 ⟨Nat.zero_le _, Nat.zero_le _⟩) hA hH [1, 2, 3, 4, 5, 6, 7, 15, 16, 17, 18, 19, 20, 21] [0, 8, 9, 10, 11, 12, 13, 14, 22, 23, 24, 25, 26, 27, 28, 29, 30, 31, 32, 33] (sC_X_LL_1_21 g ad R1 R2 R3 K T SN SZ F) (sR_X_LL_1_21 g ad R1 R2 R3 K T SN SZ F) nR_X_LL_1_21 dj_X_LL_1_21 [0, 20, 21, 22, 23, 24, 25, 26, 1, 2, 3, 4, 5, 6, 7, 27, 28, 29, 30, 31, 32, 33, 8, 9, 10, 11, 12, 13, 14, 15, 16, 17, 18, 19] nP_X_LL_1_21 (sP_X_LL_1_21 g ad R1 R2 R3 K T SN SZ F R1_8 R3) (fun H locs hH => ?_)
    refine lv_aload_n hx hb dX5_undo_25 rfl (lv_at hl 0 rfl) ?_
    refine gf_RX5_10 C hE hH 0 rfl rfl dX5_undo_26 ?_
    refine gf_RX5_195 C hE hH 1 rfl rfl dX5_undo_29 ?_
    have hf := Option.some.inj hf
    obtain ⟨h1, hf⟩ := Prod.mk.inj hf
    obtain ⟨h2, h3⟩ := Prod.mk.inj hf
    subst h1
    subst h2
    subst h3
    exact retI C hH rfl dX5_undo_32
  · have hf := if_p hf c_7
    refine lv_aload_n hx hb dX5_undo_7 rfl (lv_at hl 0 rfl) ?_
    refine lv_ldc hx hb hown (hT _ tw_19_22) dX5_undo_8 ?_
    obtain ⟨r_10, F_11, hc_12, hf⟩ := bind2_inv hf
    refine aftI (runV C hE hA hH [0, 1, 2, 3, 4, 5, 6, 7, 8, 9, 10, 11, 12, 13, 14, 15, 16, 17, 18, 19, 20, 21, 22, 23, 24, 25, 26, 27, 28, 29, 30, 31, 32, 33] nC_X_X_0_33 (sC_X_X_0_33 g ad R1 R2 R3 K T SN SZ F) (kX5_tell l g ad _ R1 R2 R3 K T SN SZ F (-1000000004 : Int32) r_10 F_11  hc_12) tw_4_17 tw_4_18 tw_4_19 tw_1_2 tw_4_20 hdX5_tell 0 rfl rfl rfl rfl ⟨Nat.le_of_ble_eq_true rfl, Nat.le_of_ble_eq_true rfl⟩ rfl hl.1 (rest := []) rfl (Nat.le_of_ble_eq_true rfl) dX5_undo_10 ⟨Nat.zero_le _, Nat.zero_le _⟩) hA hH [0, 1, 2, 3, 4, 5, 6, 7, 8, 9, 10, 11, 12, 13, 14, 15, 16, 17, 18, 19, 20, 21, 22, 23, 24, 25, 26, 27, 28, 29, 30, 31, 32, 33] [] (sC_X_X_0_33 g ad R1 R2 R3 K T SN SZ F) (sR_X_X_0_33 g ad R1 R2 R3 K T SN SZ F) nR_X_X_0_33 dj_X_X_0_33 [0, 1, 2, 3, 4, 5, 6, 7, 8, 9, 10, 11, 12, 13, 14, 15, 16, 17, 18, 19, 20, 21, 22, 23, 24, 25, 26, 27, 28, 29, 30, 31, 32, 33] nP_X_X_0_33 (sP_X_X_0_33 g ad R1 R2 R3 K T SN SZ F R1 R2 R3 K T SN SZ F_11) (fun H locs hH => ?_)
    have hf := Option.some.inj hf
    obtain ⟨h1, hf⟩ := Prod.mk.inj hf
    obtain ⟨h2, h3⟩ := Prod.mk.inj hf
    subst h1
    subst h2
    subst h3
    exact retI C hH rfl dX5_undo_13
def fX5_tear_c12  (z0 : Int32) (R1 : M2) (R2 : M2) (R3 : M2) (K : Int32) (T : M2) (SN : J2) (SZ : M2) (F : M1) : Option (Int32 × Int32) := letb ((0 : Int32)) (fun K_3 : Int32 => some (z0, K_3))
def fX5_tear (R1 : M2) (R2 : M2) (R3 : M2) (K : Int32) (T : M2) (SN : J2) (SZ : M2) (F : M1) : Option (Int32 × Int32) := (if K = 0 then fX5_tear_c12  (0 : Int32) R1 R2 R3 K T SN SZ F else fX5_tear_c12  (1 : Int32) R1 R2 R3 K T SN SZ F)
def rmX5_tear : Room := { frames := 0, cells := 0, slots := 0, locals := 0 }
theorem hdX5_tear : yX5_tear.cls = yX5_tear.cls ∧ yX5_tear.cls ≠ "java/lang/invoke/MethodHandle" ∧ yX5_tear.cls ≠ "java/lang/invoke/VarHandle" ∧ (parseMethodDescriptor yX5_tear.desc).map (fun d => d.parameters.length) = some 0 := by decide +kernel
set_option maxHeartbeats 4000000 in
set_option maxRecDepth 100000 in
theorem kX5_tear (l : Launch) (g : Gl) (ad : Nat → Nat) (sz : Nat) (R1 : M2) (R2 : M2) (R3 : M2) (K : Int32) (T : M2) (SN : J2) (SZ : M2) (F : M1)  (r : Int32) (K' : Int32)  (hf : fX5_tear R1 R2 R3 K T SN SZ F = some (r, K')) : MetI l yX5_tear (Cond.code yX5_tear cX5_tear 2 (some .int) :: wsL_law) rmX5_tear [.ref (ad 0)] g (wX g ad R1 R2 R3 K T SN SZ F) sz r (wX g ad R1 R2 R3 K' T SN SZ F) := by
  refine openI (by decide +kernel) (Nat.le_of_ble_eq_true rfl) ?_
  intro p e s m args below meth c A C hE hA hH ls hl
  have hl : lv_has ls 2 [(0, .ref (ad 0))] := hl
  have C : Cx p s m args meth c cX5_tear 2 (some .int) RX5 := C
  obtain ⟨hx, hb, hml, hown, hT, hr, hlk⟩ := id C
  rw [fX5_tear] at hf
  have j_12 : ∀ (z0 : Int32) (K : Int32) (H : Heap) (locs : List Loc) (ls : Array Slot), fX5_tear_c12  z0 R1 R2 R3 K T SN SZ F = some (r, K') → Hp g A s H locs (wX g ad R1 R2 R3 K T SN SZ F) → lv_has ls 2 [(0, .ref (ad 0))] → W p l e rmX5_tear s m args below meth c H locs 0 0 (QI g A below args s r (wX g ad R1 R2 R3 K' T SN SZ F)) (F0 m 12 ls [.int z0]) := by
    intro z0 K H locs  ls hf hH hl
    rw [fX5_tear_c12] at hf
    refine lv_istore_n (lv' := [(1, .int z0), (0, .ref (ad 0))]) hx hb dX5_tear_12 rfl hl (by decide) rfl (fun ls hl => ?_)
    refine lv_aload_n hx hb dX5_tear_13 rfl (lv_at hl 1 rfl) ?_
    refine lv_iconst (v := 0) hx hb dX5_tear_14 (by decide) ?_
    refine pf_RX5_22 C hE hH 0 rfl (by decide) (by decide) (Nat.le_of_ble_eq_true rfl) (fun q : Int32 => wX g ad R1 R2 R3 q T SN SZ F) ((0 : Int32)) rfl dX5_tear_15 (fun K_3 eK_3 H locs hH => ?_)
    have hf := letb_at hf K_3 eK_3
    refine lv_iload_n hx hb dX5_tear_18 rfl (lv_at hl 0 rfl) ?_
    have hf := Option.some.inj hf
    obtain ⟨h1, h2⟩ := Prod.mk.inj hf
    subst h1
    subst h2
    exact retI C hH rfl dX5_tear_19
  refine lv_aload_n hx hb dX5_tear_0 rfl (lv_at hl 0 rfl) ?_
  refine gf_RX5_22 C hE hH 0 rfl rfl dX5_tear_1 ?_
  refine lv_if_eq (tgt := 11) hx hb dX5_tear_4 (by decide) (fun c_4 => ?_) (fun c_4 => ?_)
  · have hf := if_p hf c_4
    refine lv_iconst (v := 0) hx hb dX5_tear_11 (by decide) ?_
    exact j_12 (0 : Int32) K _ _ ls hf hH (lv_sub hl [0] rfl)
  · have hf := if_n hf c_4
    refine lv_iconst (v := 1) hx hb dX5_tear_7 (by decide) ?_
    refine lv_goto (tgt := 12) hx hb dX5_tear_8 (by decide) ?_
    exact j_12 (1 : Int32) K _ _ ls hf hH (lv_sub hl [0] rfl)
def fX5_count (x1 : Int32) (R1 : M2) (R2 : M2) (R3 : M2) (K : Int32) (T : M2) (SN : J2) (SZ : M2) (F : M1) : Option (Int32 × M1) := (if x1 = 0 then some (R1 0 6, F) else (if x1 = 1 then some (T 0 0, F) else (if x1 = 2 then (fX1_countStanding (1 : Int32) R1).bind (fun (r_15 : Int32) => some (r_15, F)) else (if x1 = 3 then (fX1_countGaleDays R1).bind (fun (r_18 : Int32) => some (r_18, F)) else bind2 (fX5_tell (-1000000001 : Int32) R1 R2 R3 K T SN SZ F) (fun (r_20 : Int32) (F_21 : M1) => some (r_20, F_21))))))
def rmX5_count : Room := { frames := 4, cells := 0, slots := 0, locals := 86 }
theorem hdX5_count : yX5_count.cls = yX5_count.cls ∧ yX5_count.cls ≠ "java/lang/invoke/MethodHandle" ∧ yX5_count.cls ≠ "java/lang/invoke/VarHandle" ∧ (parseMethodDescriptor yX5_count.desc).map (fun d => d.parameters.length) = some 1 := by decide +kernel
set_option maxHeartbeats 4000000 in
set_option maxRecDepth 100000 in
theorem kX5_count (l : Launch) (g : Gl) (ad : Nat → Nat) (sz : Nat) (R1 : M2) (R2 : M2) (R3 : M2) (K : Int32) (T : M2) (SN : J2) (SZ : M2) (F : M1) (x1 : Int32) (r : Int32) (F' : M1)  (hf : fX5_count x1 R1 R2 R3 K T SN SZ F = some (r, F')) : MetI l yX5_count (Cond.code yX5_count cX5_count 2 (some .int) :: wsL_law) rmX5_count [.ref (ad 0), .int x1] g (wX g ad R1 R2 R3 K T SN SZ F) sz r (wX g ad R1 R2 R3 K T SN SZ F') := by
  refine openI (by decide +kernel) (Nat.le_of_ble_eq_true rfl) ?_
  intro p e s m args below meth c A C hE hA hH ls hl
  have hl : lv_has ls 2 [(0, .ref (ad 0)), (1, .int x1)] := hl
  have C : Cx p s m args meth c cX5_count 2 (some .int) RX5 := C
  obtain ⟨hx, hb, hml, hown, hT, hr, hlk⟩ := id C
  rw [fX5_count] at hf
  refine lv_iload_n hx hb dX5_count_0 rfl (lv_at hl 1 rfl) ?_
  by_cases c_12 : x1 = 0
  · have hf := if_p hf c_12
    refine lv_tableIn (tgt := 32) hx hb dX5_count_1 (by rw [c_12]; decide) (by rw [c_12]; decide) (by rw [c_12]; rfl) (by decide) ?_
    refine lv_aload_n hx hb dX5_count_32 rfl (lv_at hl 0 rfl) ?_
    refine gf_RX5_10 C hE hH 0 rfl rfl dX5_count_33 ?_
    refine gf_RX5_195 C hE hH 1 rfl rfl dX5_count_36 ?_
    have hf := Option.some.inj hf
    obtain ⟨h1, h2⟩ := Prod.mk.inj hf
    subst h1
    subst h2
    exact retI C hH rfl dX5_count_39
  have hf := if_n hf c_12
  by_cases c_13 : x1 = 1
  · have hf := if_p hf c_13
    refine lv_tableIn (tgt := 40) hx hb dX5_count_1 (by rw [c_13]; decide) (by rw [c_13]; decide) (by rw [c_13]; rfl) (by decide) ?_
    refine lv_aload_n hx hb dX5_count_40 rfl (lv_at hl 0 rfl) ?_
    refine gf_RX5_29 C hE hH 0 rfl rfl dX5_count_41 ?_
    refine gf_RX5_201 C hE hH 22 rfl rfl dX5_count_44 ?_
    have hf := Option.some.inj hf
    obtain ⟨h1, h2⟩ := Prod.mk.inj hf
    subst h1
    subst h2
    exact retI C hH rfl dX5_count_47
  have hf := if_n hf c_13
  by_cases c_14 : x1 = 2
  · have hf := if_p hf c_14
    refine lv_tableIn (tgt := 48) hx hb dX5_count_1 (by rw [c_14]; decide) (by rw [c_14]; decide) (by rw [c_14]; rfl) (by decide) ?_
    refine lv_aload_n hx hb dX5_count_48 rfl (lv_at hl 0 rfl) ?_
    refine gf_RX5_10 C hE hH 0 rfl rfl dX5_count_49 ?_
    refine lv_iconst (v := 1) hx hb dX5_count_52 (by decide) ?_
    obtain ⟨r_15, hc_16, hf⟩ := bind_inv hf
    refine aftPI (runV C hE hA hH [1, 2, 3, 4, 5, 6, 7] nC_X_L_1_7 (sC_X_L_1_7 g ad R1 R2 R3 K T SN SZ F) (kX1_countStanding l g (fun k => ad (1 + k)) _ R1 (1 : Int32) r_15  hc_16) tw_39_21 tw_15_12 tw_15_13 tw_1_15 tw_15_14 hdX1_countStanding 1 rfl rfl rfl rfl ⟨Nat.le_of_ble_eq_true rfl, Nat.le_of_ble_eq_true rfl⟩ rfl hl.1 (rest := []) rfl (Nat.le_of_ble_eq_true rfl) dX5_count_53 ⟨Nat.zero_le _, Nat.zero_le _⟩) ?_
    have hf := Option.some.inj hf
    obtain ⟨h1, h2⟩ := Prod.mk.inj hf
    subst h1
    subst h2
    exact retI C hH rfl dX5_count_56
  have hf := if_n hf c_14
  by_cases c_17 : x1 = 3
  · have hf := if_p hf c_17
    refine lv_tableIn (tgt := 57) hx hb dX5_count_1 (by rw [c_17]; decide) (by rw [c_17]; decide) (by rw [c_17]; rfl) (by decide) ?_
    refine lv_aload_n hx hb dX5_count_57 rfl (lv_at hl 0 rfl) ?_
    refine gf_RX5_10 C hE hH 0 rfl rfl dX5_count_58 ?_
    obtain ⟨r_18, hc_19, hf⟩ := bind_inv hf
    refine aftPI (runV C hE hA hH [1, 2, 3, 4, 5, 6, 7] nC_X_L_1_7 (sC_X_L_1_7 g ad R1 R2 R3 K T SN SZ F) (kX1_countGaleDays l g (fun k => ad (1 + k)) _ R1 r_18  hc_19) tw_39_22 tw_39_23 tw_40_0 tw_1_15 tw_40_1 hdX1_countGaleDays 1 rfl rfl rfl rfl ⟨Nat.le_of_ble_eq_true rfl, Nat.le_of_ble_eq_true rfl⟩ rfl hl.1 (rest := []) rfl (Nat.le_of_ble_eq_true rfl) dX5_count_61 ⟨Nat.zero_le _, Nat.zero_le _⟩) ?_
    have hf := Option.some.inj hf
    obtain ⟨h1, h2⟩ := Prod.mk.inj hf
    subst h1
    subst h2
    exact retI C hH rfl dX5_count_64
  have hf := if_n hf c_17
  refine lv_tableOut (tgt := 65) hx hb dX5_count_1 (by have qc_12 := lv_neT c_12 (a := 0) (by decide); have qc_13 := lv_neT c_13 (a := 1) (by decide); have qc_14 := lv_neT c_14 (a := 2) (by decide); have qc_17 := lv_neT c_17 (a := 3) (by decide); omega) (by decide) ?_
  refine lv_aload_n hx hb dX5_count_65 rfl (lv_at hl 0 rfl) ?_
  refine lv_ldc hx hb hown (hT _ tw_4_12) dX5_count_66 ?_
  obtain ⟨r_20, F_21, hc_22, hf⟩ := bind2_inv hf
  refine aftI (runV C hE hA hH [0, 1, 2, 3, 4, 5, 6, 7, 8, 9, 10, 11, 12, 13, 14, 15, 16, 17, 18, 19, 20, 21, 22, 23, 24, 25, 26, 27, 28, 29, 30, 31, 32, 33] nC_X_X_0_33 (sC_X_X_0_33 g ad R1 R2 R3 K T SN SZ F) (kX5_tell l g ad _ R1 R2 R3 K T SN SZ F (-1000000001 : Int32) r_20 F_21  hc_22) tw_4_17 tw_4_18 tw_4_19 tw_1_2 tw_4_20 hdX5_tell 0 rfl rfl rfl rfl ⟨Nat.le_of_ble_eq_true rfl, Nat.le_of_ble_eq_true rfl⟩ rfl hl.1 (rest := []) rfl (Nat.le_of_ble_eq_true rfl) dX5_count_68 ⟨Nat.zero_le _, Nat.zero_le _⟩) hA hH [0, 1, 2, 3, 4, 5, 6, 7, 8, 9, 10, 11, 12, 13, 14, 15, 16, 17, 18, 19, 20, 21, 22, 23, 24, 25, 26, 27, 28, 29, 30, 31, 32, 33] [] (sC_X_X_0_33 g ad R1 R2 R3 K T SN SZ F) (sR_X_X_0_33 g ad R1 R2 R3 K T SN SZ F) nR_X_X_0_33 dj_X_X_0_33 [0, 1, 2, 3, 4, 5, 6, 7, 8, 9, 10, 11, 12, 13, 14, 15, 16, 17, 18, 19, 20, 21, 22, 23, 24, 25, 26, 27, 28, 29, 30, 31, 32, 33] nP_X_X_0_33 (sP_X_X_0_33 g ad R1 R2 R3 K T SN SZ F R1 R2 R3 K T SN SZ F_21) (fun H locs hH => ?_)
  have hf := Option.some.inj hf
  obtain ⟨h1, h2⟩ := Prod.mk.inj hf
  subst h1
  subst h2
  exact retI C hH rfl dX5_count_71
def fX5_status_c70  (z0 : Int32) (R1 : M2) (R2 : M2) (R3 : M2) (K : Int32) (T : M2) (SN : J2) (SZ : M2) (F : M1) : Option (Int32 × M1) := some (z0, F)
def fX5_status_c43  (y2 : Int32) (R1 : M2) (R2 : M2) (R3 : M2) (K : Int32) (T : M2) (SN : J2) (SZ : M2) (F : M1) : Option (Int32 × M1) := some (y2, F)
def fX5_status_c19  : Nat → Int32 → Int32 → Int32 → M2 → M2 → M2 → Int32 → M2 → J2 → M2 → M1 → Option (Int32 × M1)
  | 0, _, _, _, _, _, _, _, _, _, _, _ => none
  | n + 1, y2, y4, y5, R1, R2, R3, K, T, SN, SZ, F => (if y4 ≤ y5 then fX5_status_c43  y2 R1 R2 R3 K T SN SZ F else grd (inb y5 7) (letb (F y5.toNatClampNeg) (fun v_16 : Int32 => letb (y2 + v_16) (fun v_17 : Int32 => letb (y5 + (1 : Int32)) (fun v_18 : Int32 => fX5_status_c19 n v_17 y4 v_18 R1 R2 R3 K T SN SZ F)))))
def fX5_status (x1 : Int32) (R1 : M2) (R2 : M2) (R3 : M2) (K : Int32) (T : M2) (SN : J2) (SZ : M2) (F : M1) : Option (Int32 × M1) := (if x1 = (-1 : Int32) then fX5_status_c19  FU (0 : Int32) (7 : Int32) (0 : Int32) R1 R2 R3 K T SN SZ F else (fX5_within x1 (0 : Int32) (6 : Int32)).bind (fun (r_20 : Int32) => (if r_20 = 0 then bind2 (fX5_tell (-1000000001 : Int32) R1 R2 R3 K T SN SZ F) (fun (r_23 : Int32) (F_24 : M1) => fX5_status_c70  r_23 R1 R2 R3 K T SN SZ F_24) else grd (inb x1 7) (fX5_status_c70  (F x1.toNatClampNeg) R1 R2 R3 K T SN SZ F))))
def rmX5_status : Room := { frames := 2, cells := 0, slots := 0, locals := 44 }
theorem hdX5_status : yX5_status.cls = yX5_status.cls ∧ yX5_status.cls ≠ "java/lang/invoke/MethodHandle" ∧ yX5_status.cls ≠ "java/lang/invoke/VarHandle" ∧ (parseMethodDescriptor yX5_status.desc).map (fun d => d.parameters.length) = some 1 := by decide +kernel
set_option maxHeartbeats 4000000 in
set_option maxRecDepth 100000 in
theorem kX5_status (l : Launch) (g : Gl) (ad : Nat → Nat) (sz : Nat) (R1 : M2) (R2 : M2) (R3 : M2) (K : Int32) (T : M2) (SN : J2) (SZ : M2) (F : M1) (x1 : Int32) (r : Int32) (F' : M1)  (hf : fX5_status x1 R1 R2 R3 K T SN SZ F = some (r, F')) : MetI l yX5_status (Cond.code yX5_status cX5_status 7 (some .int) :: wsL_law) rmX5_status [.ref (ad 0), .int x1] g (wX g ad R1 R2 R3 K T SN SZ F) sz r (wX g ad R1 R2 R3 K T SN SZ F') := by
  refine openI (by decide +kernel) (Nat.le_of_ble_eq_true rfl) ?_
  intro p e s m args below meth c A C hE hA hH ls hl
  have hl : lv_has ls 7 [(0, .ref (ad 0)), (1, .int x1)] := hl
  have C : Cx p s m args meth c cX5_status 7 (some .int) RX5 := C
  obtain ⟨hx, hb, hml, hown, hT, hr, hlk⟩ := id C
  rw [fX5_status] at hf
  have j_70 : ∀ (z0 : Int32) (F : M1) (H : Heap) (locs : List Loc) (ls : Array Slot), fX5_status_c70  z0 R1 R2 R3 K T SN SZ F = some (r, F') → Hp g A s H locs (wX g ad R1 R2 R3 K T SN SZ F) → lv_has ls 7 [] → W p l e rmX5_status s m args below meth c H locs 0 0 (QI g A below args s r (wX g ad R1 R2 R3 K T SN SZ F')) (F0 m 70 ls [.int z0]) := by
    intro z0 F H locs  ls hf hH hl
    rw [fX5_status_c70] at hf
    have hf := Option.some.inj hf
    obtain ⟨h1, h2⟩ := Prod.mk.inj hf
    subst h1
    subst h2
    exact retI C hH rfl dX5_status_70
  have lp_19 : ∀ (n_19 : Nat) (y2 : Int32) (y4 : Int32) (y5 : Int32) (F : M1) (H : Heap) (locs : List Loc) (ls : Array Slot), fX5_status_c19  n_19 y2 y4 y5 R1 R2 R3 K T SN SZ F = some (r, F') → Hp g A s H locs (wX g ad R1 R2 R3 K T SN SZ F) → lv_has ls 7 [(2, .int y2), (3, .ref (ad 33)), (4, .int y4), (5, .int y5)] → W p l e rmX5_status s m args below meth c H locs 0 0 (QI g A below args s r (wX g ad R1 R2 R3 K T SN SZ F')) (F0 m 19 ls []) := by
    intro n_19
    induction n_19 with
    | zero =>
      intro y2 y4 y5 F H locs  ls hf hH hl
      rw [fX5_status_c19] at hf
      cases hf
    | succ n_19 ih_19 =>
      intro y2 y4 y5 F H locs  ls hf hH hl
      rw [fX5_status_c19] at hf
      have j_43 : ∀ (y2 : Int32) (F : M1) (H : Heap) (locs : List Loc) (ls : Array Slot), fX5_status_c43  y2 R1 R2 R3 K T SN SZ F = some (r, F') → Hp g A s H locs (wX g ad R1 R2 R3 K T SN SZ F) → lv_has ls 7 [(2, .int y2)] → W p l e rmX5_status s m args below meth c H locs 0 0 (QI g A below args s r (wX g ad R1 R2 R3 K T SN SZ F')) (F0 m 43 ls []) := by
        intro y2 F H locs  ls hf hH hl
        rw [fX5_status_c43] at hf
        refine lv_iload_n hx hb dX5_status_43 rfl (lv_at hl 0 rfl) ?_
        have hf := Option.some.inj hf
        obtain ⟨h1, h2⟩ := Prod.mk.inj hf
        subst h1
        subst h2
        exact retI C hH rfl dX5_status_44
      refine lv_iload hx hb dX5_status_19 (lv_at hl 3 rfl) ?_
      refine lv_iload hx hb dX5_status_21 (lv_at hl 2 rfl) ?_
      refine lv_icmp_ge (tgt := 43) hx hb dX5_status_23 (by decide) (fun c_14 => ?_) (fun c_14 => ?_)
      · have hf := if_p hf c_14
        exact j_43 y2 F _ _ ls hf hH (lv_sub hl [0] rfl)
      · have hf := if_n hf c_14
        refine lv_aload_n hx hb dX5_status_26 rfl (lv_at hl 1 rfl) ?_
        refine lv_iload hx hb dX5_status_27 (lv_at hl 3 rfl) ?_
        obtain ⟨hi_15, hf⟩ := grd_inv hf
        refine xiald C hE hH 33 rfl hi_15 dX5_status_29 ?_
        refine lv_topi (fun v_16 ev_16 => ?_)
        have hf := letb_at hf v_16 ev_16
        refine lv_istore (lv' := [(6, .int v_16), (2, .int y2), (3, .ref (ad 33)), (4, .int y4), (5, .int y5)]) hx hb dX5_status_30 hl (by decide) rfl (fun ls hl => ?_)
        refine lv_iload_n hx hb dX5_status_32 rfl (lv_at hl 1 rfl) ?_
        refine lv_iload hx hb dX5_status_33 (lv_at hl 0 rfl) ?_
        refine lv_iadd hx hb dX5_status_35 ?_
        refine lv_topi (fun v_17 ev_17 => ?_)
        have hf := letb_at hf v_17 ev_17
        refine lv_istore_n (lv' := [(2, .int v_17), (6, .int v_16), (3, .ref (ad 33)), (4, .int y4), (5, .int y5)]) hx hb dX5_status_36 rfl hl (by decide) rfl (fun ls hl => ?_)
        obtain ⟨v_18, ev_18⟩ : ∃ z : Int32, z = y5 + (1 : Int32) := ⟨_, rfl⟩
        have hf := letb_at hf v_18 ev_18
        refine lv_iinc (v := v_18) (lv' := [(5, .int v_18), (2, .int v_17), (6, .int v_16), (3, .ref (ad 33)), (4, .int y4)]) hx hb dX5_status_37 hl (k := 4) rfl (by rw [ev_18]; rfl) (by decide) rfl (fun ls hl => ?_)
        refine lv_goto (tgt := 19) hx hb dX5_status_40 (by decide) ?_
        exact ih_19 v_17 y4 v_18 F _ _ ls hf hH (lv_sub hl [1, 3, 4, 0] rfl)
  refine lv_iload_n hx hb dX5_status_0 rfl (lv_at hl 1 rfl) ?_
  refine lv_iconst (v := (-1)) hx hb dX5_status_1 (by decide) ?_
  refine lv_icmp_ne (tgt := 45) hx hb dX5_status_2 (by decide) (fun c_19 => ?_) (fun c_19 => ?_)
  · have hf := if_n hf c_19
    refine lv_iload_n hx hb dX5_status_45 rfl (lv_at hl 1 rfl) ?_
    refine lv_iconst (v := 0) hx hb dX5_status_46 (by decide) ?_
    refine lv_bipush (v := 6) hx hb dX5_status_47 (by decide) ?_
    obtain ⟨r_20, hc_21, hf⟩ := bind_inv hf
    refine aftPI (runS C hE hA hH [] rfl rfl (kX5_within l g ad _ x1 (0 : Int32) (6 : Int32) r_20  hc_21) tw_4_14 tw_4_15 tw_1_2 tw_4_16 hdX5_within rfl rfl ⟨Nat.le_of_ble_eq_true rfl, Nat.le_of_ble_eq_true rfl⟩ rfl hl.1 (rest := []) rfl (Nat.le_of_ble_eq_true rfl) dX5_status_49 ⟨Nat.zero_le _, Nat.zero_le _⟩) ?_
    refine lv_if_eq (tgt := 64) hx hb dX5_status_52 (by decide) (fun c_22 => ?_) (fun c_22 => ?_)
    · have hf := if_p hf c_22
      refine lv_aload_n hx hb dX5_status_64 rfl (lv_at hl 0 rfl) ?_
      refine lv_ldc hx hb hown (hT _ tw_4_12) dX5_status_65 ?_
      obtain ⟨r_23, F_24, hc_25, hf⟩ := bind2_inv hf
      refine aftI (runV C hE hA hH [0, 1, 2, 3, 4, 5, 6, 7, 8, 9, 10, 11, 12, 13, 14, 15, 16, 17, 18, 19, 20, 21, 22, 23, 24, 25, 26, 27, 28, 29, 30, 31, 32, 33] nC_X_X_0_33 (sC_X_X_0_33 g ad R1 R2 R3 K T SN SZ F) (kX5_tell l g ad _ R1 R2 R3 K T SN SZ F (-1000000001 : Int32) r_23 F_24  hc_25) tw_4_17 tw_4_18 tw_4_19 tw_1_2 tw_4_20 hdX5_tell 0 rfl rfl rfl rfl ⟨Nat.le_of_ble_eq_true rfl, Nat.le_of_ble_eq_true rfl⟩ rfl hl.1 (rest := []) rfl (Nat.le_of_ble_eq_true rfl) dX5_status_67 ⟨Nat.zero_le _, Nat.zero_le _⟩) hA hH [0, 1, 2, 3, 4, 5, 6, 7, 8, 9, 10, 11, 12, 13, 14, 15, 16, 17, 18, 19, 20, 21, 22, 23, 24, 25, 26, 27, 28, 29, 30, 31, 32, 33] [] (sC_X_X_0_33 g ad R1 R2 R3 K T SN SZ F) (sR_X_X_0_33 g ad R1 R2 R3 K T SN SZ F) nR_X_X_0_33 dj_X_X_0_33 [0, 1, 2, 3, 4, 5, 6, 7, 8, 9, 10, 11, 12, 13, 14, 15, 16, 17, 18, 19, 20, 21, 22, 23, 24, 25, 26, 27, 28, 29, 30, 31, 32, 33] nP_X_X_0_33 (sP_X_X_0_33 g ad R1 R2 R3 K T SN SZ F R1 R2 R3 K T SN SZ F_24) (fun H locs hH => ?_)
      exact j_70 r_23 F_24 _ _ ls hf hH (lv_sub hl [] rfl)
    · have hf := if_n hf c_22
      refine lv_aload_n hx hb dX5_status_55 rfl (lv_at hl 0 rfl) ?_
      refine gf_RX5_40 C hE hH 0 rfl rfl dX5_status_56 ?_
      refine lv_iload_n hx hb dX5_status_59 rfl (lv_at hl 1 rfl) ?_
      obtain ⟨hi_26, hf⟩ := grd_inv hf
      refine xiald C hE hH 33 rfl hi_26 dX5_status_60 ?_
      refine lv_goto (tgt := 70) hx hb dX5_status_61 (by decide) ?_
      exact j_70 (F x1.toNatClampNeg) F _ _ ls hf hH (lv_sub hl [] rfl)
  · have hf := if_p hf c_19
    refine lv_iconst (v := 0) hx hb dX5_status_5 (by decide) ?_
    refine lv_istore_n (lv' := [(2, .int (0 : Int32)), (0, .ref (ad 0)), (1, .int x1)]) hx hb dX5_status_6 rfl hl (by decide) rfl (fun ls hl => ?_)
    refine lv_aload_n hx hb dX5_status_7 rfl (lv_at hl 1 rfl) ?_
    refine gf_RX5_40 C hE hH 0 rfl rfl dX5_status_8 ?_
    refine lv_astore_n (lv' := [(3, .ref (ad 33)), (2, .int (0 : Int32)), (0, .ref (ad 0)), (1, .int x1)]) hx hb dX5_status_11 rfl hl (by decide) rfl (fun ls hl => ?_)
    refine lv_aload_n hx hb dX5_status_12 rfl (lv_at hl 0 rfl) ?_
    refine xalen C hE hH 33 0 rfl rfl (v := 7) rfl dX5_status_13 ?_
    refine lv_istore (lv' := [(4, .int (7 : Int32)), (3, .ref (ad 33)), (2, .int (0 : Int32)), (0, .ref (ad 0)), (1, .int x1)]) hx hb dX5_status_14 hl (by decide) rfl (fun ls hl => ?_)
    refine lv_iconst (v := 0) hx hb dX5_status_16 (by decide) ?_
    refine lv_istore (lv' := [(5, .int (0 : Int32)), (4, .int (7 : Int32)), (3, .ref (ad 33)), (2, .int (0 : Int32)), (0, .ref (ad 0)), (1, .int x1)]) hx hb dX5_status_17 hl (by decide) rfl (fun ls hl => ?_)
    exact lp_19 _ (0 : Int32) (7 : Int32) (0 : Int32) F _ _ ls hf hH (lv_sub hl [3, 2, 1, 0] rfl)
