def fX6_isSheet (x1 : Int32) : Option (Int32) := (fX6_in x1 (0 : Int32) (3 : Int32)).bind (fun (r_3 : Int32) => grd (isB r_3) (some r_3))
def rmX6_isSheet : Room := { frames := 1, cells := 0, slots := 0, locals := 22 }
theorem hdX6_isSheet : yX6_isSheet.cls = yX6_isSheet.cls ∧ yX6_isSheet.cls ≠ "java/lang/invoke/MethodHandle" ∧ yX6_isSheet.cls ≠ "java/lang/invoke/VarHandle" ∧ (parseMethodDescriptor yX6_isSheet.desc).map (fun d => d.parameters.length) = some 1 := by decide +kernel
set_option maxHeartbeats 4000000 in
set_option maxRecDepth 100000 in
theorem kX6_isSheet (l : Launch) (g : Gl) (ad : Nat → Nat) (sz : Nat)  (x1 : Int32) (r : Int32)  (hf : fX6_isSheet x1 = some r) : MetPI l yX6_isSheet (Cond.code yX6_isSheet cX6_isSheet 1 (some .boolean) :: wsL_law) rmX6_isSheet [.int x1] g ([]) sz r := by
  refine openPI (by decide +kernel) (Nat.le_of_ble_eq_true rfl) ?_
  intro p e s m args below meth c A C hE hA hH ls hl
  have hl : lv_has ls 1 [(0, .int x1)] := hl
  have C : Cx p s m args meth c cX6_isSheet 1 (some .boolean) RX6 := C
  obtain ⟨hx, hb, hml, hown, hT, hr, hlk⟩ := id C
  rw [fX6_isSheet] at hf
  refine lv_iload_n hx hb dX6_isSheet_0 rfl (lv_at hl 0 rfl) ?_
  refine lv_iconst (v := 0) hx hb dX6_isSheet_1 (by decide) ?_
  refine lv_iconst (v := 3) hx hb dX6_isSheet_2 (by decide) ?_
  obtain ⟨r_3, hc_4, hf⟩ := bind_inv hf
  refine aftPI (runS C hE hA hH [] rfl rfl (kX6_in l g ad _ x1 (0 : Int32) (3 : Int32) r_3  hc_4) tw_5_2 tw_5_3 tw_1_5 tw_5_4 hdX6_in rfl rfl ⟨Nat.le_of_ble_eq_true rfl, Nat.le_of_ble_eq_true rfl⟩ rfl hl.1 (rest := []) rfl (Nat.le_of_ble_eq_true rfl) dX6_isSheet_3 ⟨Nat.zero_le _, Nat.zero_le _⟩) ?_
  obtain ⟨hz, hf⟩ := grd_inv hf
  have h1 := Option.some.inj hf
  subst h1
  exact retPI C (isB_nar hz) dX6_isSheet_6
def fX6_narrow_c33  (z0 : Int64) : Option (Int64) := some z0
def fX6_narrow (x1 : Int32) (x2 : Int64) : Option (Int64) := (if x1 = (8 : Int32) then fX6_narrow_c33  ((x2 <<< ((56 : Int32).toInt64 &&& 63)) >>> ((56 : Int32).toInt64 &&& 63)) else (if x1 = (16 : Int32) then fX6_narrow_c33  ((x2 <<< ((48 : Int32).toInt64 &&& 63)) >>> ((48 : Int32).toInt64 &&& 63)) else fX6_narrow_c33  x2))
def rmX6_narrow : Room := { frames := 0, cells := 0, slots := 0, locals := 0 }
theorem hdX6_narrow : yX6_narrow.cls = yX6_narrow.cls ∧ yX6_narrow.cls ≠ "java/lang/invoke/MethodHandle" ∧ yX6_narrow.cls ≠ "java/lang/invoke/VarHandle" ∧ (parseMethodDescriptor yX6_narrow.desc).map (fun d => d.parameters.length) = some 2 := by decide +kernel
set_option maxHeartbeats 4000000 in
set_option maxRecDepth 100000 in
theorem kX6_narrow (l : Launch) (g : Gl) (ad : Nat → Nat) (sz : Nat)  (x1 : Int32) (x2 : Int64) (r : Int64)  (hf : fX6_narrow x1 x2 = some r) : MetPJ l yX6_narrow (Cond.code yX6_narrow cX6_narrow 3 (some .long) :: wsL_law) rmX6_narrow [.int x1, .long x2] g ([]) sz r := by
  refine openPJ (by decide +kernel) (Nat.le_of_ble_eq_true rfl) ?_
  intro p e s m args below meth c A C hE hA hH ls hl
  have hl : lv_has ls 3 [(0, .int x1), (1, .long x2)] := hl
  have C : Cx p s m args meth c cX6_narrow 3 (some .long) RX6 := C
  obtain ⟨hx, hb, hml, hown, hT, hr, hlk⟩ := id C
  rw [fX6_narrow] at hf
  have j_33 : ∀ (z0 : Int64) (ls : Array Slot), fX6_narrow_c33  z0 = some r → lv_has ls 3 [] → W p l e rmX6_narrow s m args below meth c s.heap [] 0 0 (QPJ below args s r) (F0 m 33 ls [.long z0]) := by
    intro z0  ls hf hl
    rw [fX6_narrow_c33] at hf
    have h1 := Option.some.inj hf
    subst h1
    exact retPJ C dX6_narrow_33
  refine lv_iload_n hx hb dX6_narrow_0 rfl (lv_at hl 0 rfl) ?_
  refine lv_bipush (v := 8) hx hb dX6_narrow_1 (by decide) ?_
  refine lv_icmp_ne (tgt := 16) hx hb dX6_narrow_3 (by decide) (fun c_3 => ?_) (fun c_3 => ?_)
  · have hf := if_n hf c_3
    refine lv_iload_n hx hb dX6_narrow_16 rfl (lv_at hl 0 rfl) ?_
    refine lv_bipush (v := 16) hx hb dX6_narrow_17 (by decide) ?_
    refine lv_icmp_ne (tgt := 32) hx hb dX6_narrow_19 (by decide) (fun c_4 => ?_) (fun c_4 => ?_)
    · have hf := if_n hf c_4
      refine lv_lload_n hx hb dX6_narrow_32 rfl (lv_at hl 1 rfl) ?_
      exact j_33 x2 ls hf (lv_sub hl [] rfl)
    · have hf := if_p hf c_4
      refine lv_lload_n hx hb dX6_narrow_22 rfl (lv_at hl 1 rfl) ?_
      refine lv_bipush (v := 48) hx hb dX6_narrow_23 (by decide) ?_
      refine lv_lshl hx hb dX6_narrow_25 rfl ?_
      refine lv_bipush (v := 48) hx hb dX6_narrow_26 (by decide) ?_
      refine lv_lshr hx hb dX6_narrow_28 rfl ?_
      refine lv_goto (tgt := 33) hx hb dX6_narrow_29 (by decide) ?_
      exact j_33 ((x2 <<< ((48 : Int32).toInt64 &&& 63)) >>> ((48 : Int32).toInt64 &&& 63)) ls hf (lv_sub hl [] rfl)
  · have hf := if_p hf c_3
    refine lv_lload_n hx hb dX6_narrow_6 rfl (lv_at hl 1 rfl) ?_
    refine lv_bipush (v := 56) hx hb dX6_narrow_7 (by decide) ?_
    refine lv_lshl hx hb dX6_narrow_9 rfl ?_
    refine lv_bipush (v := 56) hx hb dX6_narrow_10 (by decide) ?_
    refine lv_lshr hx hb dX6_narrow_12 rfl ?_
    refine lv_goto (tgt := 33) hx hb dX6_narrow_13 (by decide) ?_
    exact j_33 ((x2 <<< ((56 : Int32).toInt64 &&& 63)) >>> ((56 : Int32).toInt64 &&& 63)) ls hf (lv_sub hl [] rfl)
def fX6_sheet_c29  (G : M2) (J : J2) : Option (Int32 × M2 × J2) := bind2 (fX6_finds (-1000000001 : Int32) G J) (fun (r_29 : Int32) (G_30 : M2) => some (r_29, G_30, J))
def fX6_sheet_c111  (y1 : Int32) (G : M2) (J : J2) : Option (Int32 × M2 × J2) := grd (inb y1 4) (some (G 7 y1.toNatClampNeg, G, J))
def fX6_sheet_c85  : Nat → Int32 → Int32 → M2 → J2 → Option (Int32 × M2 × J2)
  | 0, _, _, _, _ => none
  | n + 1, y1, y4, G, J => (if (40 : Int32) ≤ y4 then fX6_sheet_c111  y1 G J else grd (inb (((40 : Int32) * y1) + y4) 160) (letb (st2 J 1 (vp_updL (J 1) (((40 : Int32) * y1) + y4).toNatClampNeg (0 : Int64))) (fun J_35 : J2 => letb (y4 + (1 : Int32)) (fun v_36 : Int32 => fX6_sheet_c85 n y1 v_36 G J_35))))
def fX6_sheet_c81  (y1 : Int32) (z0 : Int32) (z1 : Int32) (G : M2) (J : J2) : Option (Int32 × M2 × J2) := grd (inb z1 4) (letb (st2 G 7 (upd (G 7) z1.toNatClampNeg z0)) (fun G_38 : M2 => fX6_sheet_c85  FU y1 (0 : Int32) G_38 J))
def fX6_sheet_c36  (y1 : Int32) (y2 : Int32) (y3 : Int32) (G : M2) (J : J2) : Option (Int32 × M2 × J2) := (if 0 ≤ y3 then (if y3 ≤ (40 : Int32) then grd (inb y1 4) (letb (st2 G 6 (upd (G 6) y1.toNatClampNeg y2)) (fun G_42 : M2 => (if y2 = 0 then fX6_sheet_c81  y1 (0 : Int32) y1 G_42 J else fX6_sheet_c81  y1 y3 y1 G_42 J))) else bind2 (fX6_finds (-1000000001 : Int32) G J) (fun (r_44 : Int32) (G_45 : M2) => some (r_44, G_45, J))) else bind2 (fX6_finds (-1000000007 : Int32) G J) (fun (r_47 : Int32) (G_48 : M2) => some (r_47, G_48, J)))
def fX6_sheet (x1 : Int32) (x2 : Int32) (x3 : Int32) (G : M2) (J : J2) : Option (Int32 × M2 × J2) := (fX6_isSheet x1).bind (fun (r_50 : Int32) => (if r_50 = 0 then fX6_sheet_c29  G J else (if x2 = 0 then fX6_sheet_c36  x1 x2 x3 G J else (if x2 = (8 : Int32) then fX6_sheet_c36  x1 x2 x3 G J else (if x2 = (16 : Int32) then fX6_sheet_c36  x1 x2 x3 G J else (if x2 = (64 : Int32) then fX6_sheet_c36  x1 x2 x3 G J else fX6_sheet_c29  G J))))))
def rmX6_sheet : Room := { frames := 2, cells := 0, slots := 0, locals := 42 }
theorem hdX6_sheet : yX6_sheet.cls = yX6_sheet.cls ∧ yX6_sheet.cls ≠ "java/lang/invoke/MethodHandle" ∧ yX6_sheet.cls ≠ "java/lang/invoke/VarHandle" ∧ (parseMethodDescriptor yX6_sheet.desc).map (fun d => d.parameters.length) = some 3 := by decide +kernel
set_option maxHeartbeats 4000000 in
set_option maxRecDepth 100000 in
theorem kX6_sheet (l : Launch) (g : Gl) (ad : Nat → Nat) (sz : Nat) (G : M2) (J : J2) (x1 : Int32) (x2 : Int32) (x3 : Int32) (r : Int32) (G' : M2) (J' : J2)  (hf : fX6_sheet x1 x2 x3 G J = some (r, G', J')) : MetI l yX6_sheet (Cond.code yX6_sheet cX6_sheet 5 (some .int) :: wsL_law) rmX6_sheet [.ref (ad 0), .int x1, .int x2, .int x3] g (wM g ad G J) sz r (wM g ad G' J') := by
  refine openI (by decide +kernel) (Nat.le_of_ble_eq_true rfl) ?_
  intro p e s m args below meth c A C hE hA hH ls hl
  have hl : lv_has ls 5 [(0, .ref (ad 0)), (1, .int x1), (2, .int x2), (3, .int x3)] := hl
  have C : Cx p s m args meth c cX6_sheet 5 (some .int) RX6 := C
  obtain ⟨hx, hb, hml, hown, hT, hr, hlk⟩ := id C
  rw [fX6_sheet] at hf
  have j_29 : ∀ (G : M2) (J : J2) (H : Heap) (locs : List Loc) (ls : Array Slot), fX6_sheet_c29  G J = some (r, G', J') → Hp g A s H locs (wM g ad G J) → lv_has ls 5 [(0, .ref (ad 0))] → W p l e rmX6_sheet s m args below meth c H locs 0 0 (QI g A below args s r (wM g ad G' J')) (F0 m 29 ls []) := by
    intro G J H locs  ls hf hH hl
    rw [fX6_sheet_c29] at hf
    refine lv_aload_n hx hb dX6_sheet_29 rfl (lv_at hl 0 rfl) ?_
    refine lv_ldc hx hb hown (hT _ tw_5_1) dX6_sheet_30 ?_
    obtain ⟨r_29, G_30, hc_31, hf⟩ := bind2_inv hf
    refine aftI (runV C hE hA hH [0, 1, 2, 3, 4, 5, 6, 7, 8, 9, 10, 11] nC_M_M_0_11 (sC_M_M_0_11 g ad G J) (kX6_finds l g ad _ G J (-1000000001 : Int32) r_29 G_30  hc_31) tw_5_9 tw_5_10 tw_5_11 tw_1_5 tw_5_12 hdX6_finds 0 rfl rfl rfl rfl ⟨Nat.le_of_ble_eq_true rfl, Nat.le_of_ble_eq_true rfl⟩ rfl hl.1 (rest := []) rfl (Nat.le_of_ble_eq_true rfl) dX6_sheet_32 ⟨Nat.zero_le _, Nat.zero_le _⟩) hA hH [0, 1, 2, 3, 4, 5, 6, 7, 8, 9, 10, 11] [] (sC_M_M_0_11 g ad G J) (sR_M_M_0_11 g ad G J) nR_M_M_0_11 dj_M_M_0_11 [0, 1, 2, 3, 4, 5, 6, 7, 8, 9, 10, 11] nP_M_M_0_11 (sP_M_M_0_11 g ad G J G_30 J) (fun H locs hH => ?_)
    have hf := Option.some.inj hf
    obtain ⟨h1, hf⟩ := Prod.mk.inj hf
    obtain ⟨h2, h3⟩ := Prod.mk.inj hf
    subst h1
    subst h2
    subst h3
    exact retI C hH rfl dX6_sheet_35
  have j_36 : ∀ (y1 : Int32) (y2 : Int32) (y3 : Int32) (G : M2) (J : J2) (H : Heap) (locs : List Loc) (ls : Array Slot), fX6_sheet_c36  y1 y2 y3 G J = some (r, G', J') → Hp g A s H locs (wM g ad G J) → lv_has ls 5 [(0, .ref (ad 0)), (1, .int y1), (2, .int y2), (3, .int y3)] → W p l e rmX6_sheet s m args below meth c H locs 0 0 (QI g A below args s r (wM g ad G' J')) (F0 m 36 ls []) := by
    intro y1 y2 y3 G J H locs  ls hf hH hl
    rw [fX6_sheet_c36] at hf
    have j_81 : ∀ (y1 : Int32) (z0 : Int32) (z1 : Int32) (G : M2) (J : J2) (H : Heap) (locs : List Loc) (ls : Array Slot), fX6_sheet_c81  y1 z0 z1 G J = some (r, G', J') → Hp g A s H locs (wM g ad G J) → lv_has ls 5 [(0, .ref (ad 0)), (1, .int y1)] → W p l e rmX6_sheet s m args below meth c H locs 0 0 (QI g A below args s r (wM g ad G' J')) (F0 m 81 ls [.int z0, .int z1, .ref (ad 7)]) := by
      intro y1 z0 z1 G J H locs  ls hf hH hl
      rw [fX6_sheet_c81] at hf
      have lp_85 : ∀ (n_85 : Nat) (y1 : Int32) (y4 : Int32) (G : M2) (J : J2) (H : Heap) (locs : List Loc) (ls : Array Slot), fX6_sheet_c85  n_85 y1 y4 G J = some (r, G', J') → Hp g A s H locs (wM g ad G J) → lv_has ls 5 [(0, .ref (ad 0)), (1, .int y1), (4, .int y4)] → W p l e rmX6_sheet s m args below meth c H locs 0 0 (QI g A below args s r (wM g ad G' J')) (F0 m 85 ls []) := by
        intro n_85
        induction n_85 with
        | zero =>
          intro y1 y4 G J H locs  ls hf hH hl
          rw [fX6_sheet_c85] at hf
          cases hf
        | succ n_85 ih_85 =>
          intro y1 y4 G J H locs  ls hf hH hl
          rw [fX6_sheet_c85] at hf
          have j_111 : ∀ (y1 : Int32) (G : M2) (J : J2) (H : Heap) (locs : List Loc) (ls : Array Slot), fX6_sheet_c111  y1 G J = some (r, G', J') → Hp g A s H locs (wM g ad G J) → lv_has ls 5 [(0, .ref (ad 0)), (1, .int y1)] → W p l e rmX6_sheet s m args below meth c H locs 0 0 (QI g A below args s r (wM g ad G' J')) (F0 m 111 ls []) := by
            intro y1 G J H locs  ls hf hH hl
            rw [fX6_sheet_c111] at hf
            refine lv_aload_n hx hb dX6_sheet_111 rfl (lv_at hl 0 rfl) ?_
            refine gf_RX6_28 C hE hH 0 rfl rfl dX6_sheet_112 ?_
            refine lv_iload_n hx hb dX6_sheet_115 rfl (lv_at hl 1 rfl) ?_
            obtain ⟨hi_32, hf⟩ := grd_inv hf
            refine xiald C hE hH 7 rfl hi_32 dX6_sheet_116 ?_
            have hf := Option.some.inj hf
            obtain ⟨h1, hf⟩ := Prod.mk.inj hf
            obtain ⟨h2, h3⟩ := Prod.mk.inj hf
            subst h1
            subst h2
            subst h3
            exact retI C hH rfl dX6_sheet_117
          refine lv_iload hx hb dX6_sheet_85 (lv_at hl 2 rfl) ?_
          refine lv_bipush (v := 40) hx hb dX6_sheet_87 (by decide) ?_
          refine lv_icmp_ge (tgt := 111) hx hb dX6_sheet_89 (by decide) (fun c_33 => ?_) (fun c_33 => ?_)
          · have hf := if_p hf c_33
            exact j_111 y1 G J _ _ ls hf hH (lv_sub hl [0, 1] rfl)
          · have hf := if_n hf c_33
            refine lv_aload_n hx hb dX6_sheet_92 rfl (lv_at hl 0 rfl) ?_
            refine gf_RX6_31 C hE hH 0 rfl rfl dX6_sheet_93 ?_
            refine lv_bipush (v := 40) hx hb dX6_sheet_96 (by decide) ?_
            refine lv_iload_n hx hb dX6_sheet_98 rfl (lv_at hl 1 rfl) ?_
            refine lv_imul hx hb dX6_sheet_99 ?_
            refine lv_iload hx hb dX6_sheet_100 (lv_at hl 2 rfl) ?_
            refine lv_iadd hx hb dX6_sheet_102 ?_
            refine lv_lconst (v := 0) hx hb dX6_sheet_103 (by decide) ?_
            obtain ⟨hi_34, hf⟩ := grd_inv hf
            refine xlast C hE hH 10 rfl hi_34 (fun q : J2 => wM g ad G q) (st2 J 1 (vp_updL (J 1) (((40 : Int32) * y1) + y4).toNatClampNeg (0 : Int64))) rfl dX6_sheet_104 (fun J_35 eJ_35 H locs hH => ?_)
            have hf := letb_at hf J_35 eJ_35
            obtain ⟨v_36, ev_36⟩ : ∃ z : Int32, z = y4 + (1 : Int32) := ⟨_, rfl⟩
            have hf := letb_at hf v_36 ev_36
            refine lv_iinc (v := v_36) (lv' := [(4, .int v_36), (0, .ref (ad 0)), (1, .int y1)]) hx hb dX6_sheet_105 hl (k := 2) rfl (by rw [ev_36]; rfl) (by decide) rfl (fun ls hl => ?_)
            refine lv_goto (tgt := 85) hx hb dX6_sheet_108 (by decide) ?_
            exact ih_85 y1 v_36 G J_35 _ _ ls hf hH (lv_sub hl [1, 2, 0] rfl)
      obtain ⟨hi_37, hf⟩ := grd_inv hf
      refine xiast C hE hH 7 rfl hi_37 (fun q : M2 => wM g ad q J) (st2 G 7 (upd (G 7) z1.toNatClampNeg z0)) rfl dX6_sheet_81 (fun G_38 eG_38 H locs hH => ?_)
      have hf := letb_at hf G_38 eG_38
      refine lv_iconst (v := 0) hx hb dX6_sheet_82 (by decide) ?_
      refine lv_istore (lv' := [(4, .int (0 : Int32)), (0, .ref (ad 0)), (1, .int y1)]) hx hb dX6_sheet_83 hl (by decide) rfl (fun ls hl => ?_)
      exact lp_85 _ y1 (0 : Int32) G_38 J _ _ ls hf hH (lv_sub hl [1, 2, 0] rfl)
    refine lv_iload_n hx hb dX6_sheet_36 rfl (lv_at hl 3 rfl) ?_
    refine lv_if_ge (tgt := 47) hx hb dX6_sheet_37 (by decide) (fun c_39 => ?_) (fun c_39 => ?_)
    · have hf := if_p hf c_39
      refine lv_iload_n hx hb dX6_sheet_47 rfl (lv_at hl 3 rfl) ?_
      refine lv_bipush (v := 40) hx hb dX6_sheet_48 (by decide) ?_
      refine lv_icmp_le (tgt := 60) hx hb dX6_sheet_50 (by decide) (fun c_40 => ?_) (fun c_40 => ?_)
      · have hf := if_p hf c_40
        refine lv_aload_n hx hb dX6_sheet_60 rfl (lv_at hl 0 rfl) ?_
        refine gf_RX6_25 C hE hH 0 rfl rfl dX6_sheet_61 ?_
        refine lv_iload_n hx hb dX6_sheet_64 rfl (lv_at hl 1 rfl) ?_
        refine lv_iload_n hx hb dX6_sheet_65 rfl (lv_at hl 2 rfl) ?_
        obtain ⟨hi_41, hf⟩ := grd_inv hf
        refine xiast C hE hH 6 rfl hi_41 (fun q : M2 => wM g ad q J) (st2 G 6 (upd (G 6) y1.toNatClampNeg y2)) rfl dX6_sheet_66 (fun G_42 eG_42 H locs hH => ?_)
        have hf := letb_at hf G_42 eG_42
        refine lv_aload_n hx hb dX6_sheet_67 rfl (lv_at hl 0 rfl) ?_
        refine gf_RX6_28 C hE hH 0 rfl rfl dX6_sheet_68 ?_
        refine lv_iload_n hx hb dX6_sheet_71 rfl (lv_at hl 1 rfl) ?_
        refine lv_iload_n hx hb dX6_sheet_72 rfl (lv_at hl 2 rfl) ?_
        refine lv_if_ne (tgt := 80) hx hb dX6_sheet_73 (by decide) (fun c_43 => ?_) (fun c_43 => ?_)
        · have hf := if_n hf c_43
          refine lv_iload_n hx hb dX6_sheet_80 rfl (lv_at hl 3 rfl) ?_
          exact j_81 y1 y3 y1 G_42 J _ _ ls hf hH (lv_sub hl [0, 1] rfl)
        · have hf := if_p hf c_43
          refine lv_iconst (v := 0) hx hb dX6_sheet_76 (by decide) ?_
          refine lv_goto (tgt := 81) hx hb dX6_sheet_77 (by decide) ?_
          exact j_81 y1 (0 : Int32) y1 G_42 J _ _ ls hf hH (lv_sub hl [0, 1] rfl)
      · have hf := if_n hf c_40
        refine lv_aload_n hx hb dX6_sheet_53 rfl (lv_at hl 0 rfl) ?_
        refine lv_ldc hx hb hown (hT _ tw_5_1) dX6_sheet_54 ?_
        obtain ⟨r_44, G_45, hc_46, hf⟩ := bind2_inv hf
        refine aftI (runV C hE hA hH [0, 1, 2, 3, 4, 5, 6, 7, 8, 9, 10, 11] nC_M_M_0_11 (sC_M_M_0_11 g ad G J) (kX6_finds l g ad _ G J (-1000000001 : Int32) r_44 G_45  hc_46) tw_5_9 tw_5_10 tw_5_11 tw_1_5 tw_5_12 hdX6_finds 0 rfl rfl rfl rfl ⟨Nat.le_of_ble_eq_true rfl, Nat.le_of_ble_eq_true rfl⟩ rfl hl.1 (rest := []) rfl (Nat.le_of_ble_eq_true rfl) dX6_sheet_56 ⟨Nat.zero_le _, Nat.zero_le _⟩) hA hH [0, 1, 2, 3, 4, 5, 6, 7, 8, 9, 10, 11] [] (sC_M_M_0_11 g ad G J) (sR_M_M_0_11 g ad G J) nR_M_M_0_11 dj_M_M_0_11 [0, 1, 2, 3, 4, 5, 6, 7, 8, 9, 10, 11] nP_M_M_0_11 (sP_M_M_0_11 g ad G J G_45 J) (fun H locs hH => ?_)
        have hf := Option.some.inj hf
        obtain ⟨h1, hf⟩ := Prod.mk.inj hf
        obtain ⟨h2, h3⟩ := Prod.mk.inj hf
        subst h1
        subst h2
        subst h3
        exact retI C hH rfl dX6_sheet_59
    · have hf := if_n hf c_39
      refine lv_aload_n hx hb dX6_sheet_40 rfl (lv_at hl 0 rfl) ?_
      refine lv_ldc hx hb hown (hT _ tw_35_1) dX6_sheet_41 ?_
      obtain ⟨r_47, G_48, hc_49, hf⟩ := bind2_inv hf
      refine aftI (runV C hE hA hH [0, 1, 2, 3, 4, 5, 6, 7, 8, 9, 10, 11] nC_M_M_0_11 (sC_M_M_0_11 g ad G J) (kX6_finds l g ad _ G J (-1000000007 : Int32) r_47 G_48  hc_49) tw_5_9 tw_5_10 tw_5_11 tw_1_5 tw_5_12 hdX6_finds 0 rfl rfl rfl rfl ⟨Nat.le_of_ble_eq_true rfl, Nat.le_of_ble_eq_true rfl⟩ rfl hl.1 (rest := []) rfl (Nat.le_of_ble_eq_true rfl) dX6_sheet_43 ⟨Nat.zero_le _, Nat.zero_le _⟩) hA hH [0, 1, 2, 3, 4, 5, 6, 7, 8, 9, 10, 11] [] (sC_M_M_0_11 g ad G J) (sR_M_M_0_11 g ad G J) nR_M_M_0_11 dj_M_M_0_11 [0, 1, 2, 3, 4, 5, 6, 7, 8, 9, 10, 11] nP_M_M_0_11 (sP_M_M_0_11 g ad G J G_48 J) (fun H locs hH => ?_)
      have hf := Option.some.inj hf
      obtain ⟨h1, hf⟩ := Prod.mk.inj hf
      obtain ⟨h2, h3⟩ := Prod.mk.inj hf
      subst h1
      subst h2
      subst h3
      exact retI C hH rfl dX6_sheet_46
  refine lv_iload_n hx hb dX6_sheet_0 rfl (lv_at hl 1 rfl) ?_
  obtain ⟨r_50, hc_51, hf⟩ := bind_inv hf
  refine aftPI (runS C hE hA hH [] rfl rfl (kX6_isSheet l g ad _ x1 r_50  hc_51) tw_35_2 tw_35_3 tw_1_5 tw_35_4 hdX6_isSheet rfl rfl ⟨Nat.le_of_ble_eq_true rfl, Nat.le_of_ble_eq_true rfl⟩ rfl hl.1 (rest := []) rfl (Nat.le_of_ble_eq_true rfl) dX6_sheet_1 ⟨Nat.zero_le _, Nat.zero_le _⟩) ?_
  refine lv_if_eq (tgt := 29) hx hb dX6_sheet_4 (by decide) (fun c_52 => ?_) (fun c_52 => ?_)
  · have hf := if_p hf c_52
    exact j_29 G J _ _ ls hf hH (lv_sub hl [0] rfl)
  · have hf := if_n hf c_52
    refine lv_iload_n hx hb dX6_sheet_7 rfl (lv_at hl 2 rfl) ?_
    refine lv_if_eq (tgt := 36) hx hb dX6_sheet_8 (by decide) (fun c_53 => ?_) (fun c_53 => ?_)
    · have hf := if_p hf c_53
      exact j_36 x1 x2 x3 G J _ _ ls hf hH (lv_sub hl [0, 1, 2, 3] rfl)
    · have hf := if_n hf c_53
      refine lv_iload_n hx hb dX6_sheet_11 rfl (lv_at hl 2 rfl) ?_
      refine lv_bipush (v := 8) hx hb dX6_sheet_12 (by decide) ?_
      refine lv_icmp_eq (tgt := 36) hx hb dX6_sheet_14 (by decide) (fun c_54 => ?_) (fun c_54 => ?_)
      · have hf := if_p hf c_54
        exact j_36 x1 x2 x3 G J _ _ ls hf hH (lv_sub hl [0, 1, 2, 3] rfl)
      · have hf := if_n hf c_54
        refine lv_iload_n hx hb dX6_sheet_17 rfl (lv_at hl 2 rfl) ?_
        refine lv_bipush (v := 16) hx hb dX6_sheet_18 (by decide) ?_
        refine lv_icmp_eq (tgt := 36) hx hb dX6_sheet_20 (by decide) (fun c_55 => ?_) (fun c_55 => ?_)
        · have hf := if_p hf c_55
          exact j_36 x1 x2 x3 G J _ _ ls hf hH (lv_sub hl [0, 1, 2, 3] rfl)
        · have hf := if_n hf c_55
          refine lv_iload_n hx hb dX6_sheet_23 rfl (lv_at hl 2 rfl) ?_
          refine lv_bipush (v := 64) hx hb dX6_sheet_24 (by decide) ?_
          refine lv_icmp_eq (tgt := 36) hx hb dX6_sheet_26 (by decide) (fun c_56 => ?_) (fun c_56 => ?_)
          · have hf := if_p hf c_56
            exact j_36 x1 x2 x3 G J _ _ ls hf hH (lv_sub hl [0, 1, 2, 3] rfl)
          · have hf := if_n hf c_56
            exact j_29 G J _ _ ls hf hH (lv_sub hl [0] rfl)
def fX6_write (x1 : Int32) (x2 : Int32) (x3 : Int64) (G : M2) (J : J2) : Option (Int64 × M2 × J2) := (fX6_isSheet x1).bind (fun (r_26 : Int32) => (if r_26 = 0 then bind2 (fX6_finds (-1000000001 : Int32) G J) (fun (r_48 : Int32) (G_49 : M2) => some (r_48.toInt64, G_49, J)) else grd (inb x1 4) ((if (G 6 x1.toNatClampNeg) = 0 then bind2 (fX6_finds (-1000000006 : Int32) G J) (fun (r_45 : Int32) (G_46 : M2) => some (r_45.toInt64, G_46, J)) else grd (inb x1 4) ((fX6_in x2 (0 : Int32) ((G 7 x1.toNatClampNeg) - (1 : Int32))).bind (fun (r_32 : Int32) => (if r_32 = 0 then bind2 (fX6_finds (-1000000001 : Int32) G J) (fun (r_42 : Int32) (G_43 : M2) => some (r_42.toInt64, G_43, J)) else grd (inb (((40 : Int32) * x1) + x2) 160) (letb (J 1 (((40 : Int32) * x1) + x2).toNatClampNeg) (fun v_36 : Int64 => grd (inb x1 4) ((fX6_narrow (G 6 x1.toNatClampNeg) x3).bind (fun (r_38 : Int64) => grd (inb (((40 : Int32) * x1) + x2) 160) (letb (st2 J 1 (vp_updL (J 1) (((40 : Int32) * x1) + x2).toNatClampNeg r_38)) (fun J_41 : J2 => some (v_36, G, J_41))))))))))))))
def rmX6_write : Room := { frames := 2, cells := 0, slots := 0, locals := 42 }
theorem hdX6_write : yX6_write.cls = yX6_write.cls ∧ yX6_write.cls ≠ "java/lang/invoke/MethodHandle" ∧ yX6_write.cls ≠ "java/lang/invoke/VarHandle" ∧ (parseMethodDescriptor yX6_write.desc).map (fun d => d.parameters.length) = some 3 := by decide +kernel
set_option maxHeartbeats 4000000 in
set_option maxRecDepth 100000 in
theorem kX6_write (l : Launch) (g : Gl) (ad : Nat → Nat) (sz : Nat) (G : M2) (J : J2) (x1 : Int32) (x2 : Int32) (x3 : Int64) (r : Int64) (G' : M2) (J' : J2)  (hf : fX6_write x1 x2 x3 G J = some (r, G', J')) : MetJ l yX6_write (Cond.code yX6_write cX6_write 7 (some .long) :: wsL_law) rmX6_write [.ref (ad 0), .int x1, .int x2, .long x3] g (wM g ad G J) sz r (wM g ad G' J') := by
  refine openJ (by decide +kernel) (Nat.le_of_ble_eq_true rfl) ?_
  intro p e s m args below meth c A C hE hA hH ls hl
  have hl : lv_has ls 7 [(0, .ref (ad 0)), (1, .int x1), (2, .int x2), (3, .long x3)] := hl
  have C : Cx p s m args meth c cX6_write 7 (some .long) RX6 := C
  obtain ⟨hx, hb, hml, hown, hT, hr, hlk⟩ := id C
  rw [fX6_write] at hf
  refine lv_iload_n hx hb dX6_write_0 rfl (lv_at hl 1 rfl) ?_
  obtain ⟨r_26, hc_27, hf⟩ := bind_inv hf
  refine aftPI (runS C hE hA hH [] rfl rfl (kX6_isSheet l g ad _ x1 r_26  hc_27) tw_35_2 tw_35_3 tw_1_5 tw_35_4 hdX6_isSheet rfl rfl ⟨Nat.le_of_ble_eq_true rfl, Nat.le_of_ble_eq_true rfl⟩ rfl hl.1 (rest := []) rfl (Nat.le_of_ble_eq_true rfl) dX6_write_1 ⟨Nat.zero_le _, Nat.zero_le _⟩) ?_
  refine lv_if_ne (tgt := 15) hx hb dX6_write_4 (by decide) (fun c_28 => ?_) (fun c_28 => ?_)
  · have hf := if_n hf c_28
    refine lv_aload_n hx hb dX6_write_15 rfl (lv_at hl 0 rfl) ?_
    refine gf_RX6_25 C hE hH 0 rfl rfl dX6_write_16 ?_
    refine lv_iload_n hx hb dX6_write_19 rfl (lv_at hl 1 rfl) ?_
    obtain ⟨hi_29, hf⟩ := grd_inv hf
    refine xiald C hE hH 6 rfl hi_29 dX6_write_20 ?_
    refine lv_if_ne (tgt := 32) hx hb dX6_write_21 (by decide) (fun c_30 => ?_) (fun c_30 => ?_)
    · have hf := if_n hf c_30
      refine lv_iload_n hx hb dX6_write_32 rfl (lv_at hl 2 rfl) ?_
      refine lv_iconst (v := 0) hx hb dX6_write_33 (by decide) ?_
      refine lv_aload_n hx hb dX6_write_34 rfl (lv_at hl 0 rfl) ?_
      refine gf_RX6_28 C hE hH 0 rfl rfl dX6_write_35 ?_
      refine lv_iload_n hx hb dX6_write_38 rfl (lv_at hl 1 rfl) ?_
      obtain ⟨hi_31, hf⟩ := grd_inv hf
      refine xiald C hE hH 7 rfl hi_31 dX6_write_39 ?_
      refine lv_iconst (v := 1) hx hb dX6_write_40 (by decide) ?_
      refine lv_isub hx hb dX6_write_41 ?_
      obtain ⟨r_32, hc_33, hf⟩ := bind_inv hf
      refine aftPI (runS C hE hA hH [] rfl rfl (kX6_in l g ad _ x2 (0 : Int32) ((G 7 x1.toNatClampNeg) - (1 : Int32)) r_32  hc_33) tw_5_2 tw_5_3 tw_1_5 tw_5_4 hdX6_in rfl rfl ⟨Nat.le_of_ble_eq_true rfl, Nat.le_of_ble_eq_true rfl⟩ rfl hl.1 (rest := []) rfl (Nat.le_of_ble_eq_true rfl) dX6_write_42 ⟨Nat.zero_le _, Nat.zero_le _⟩) ?_
      refine lv_if_ne (tgt := 56) hx hb dX6_write_45 (by decide) (fun c_34 => ?_) (fun c_34 => ?_)
      · have hf := if_n hf c_34
        refine lv_aload_n hx hb dX6_write_56 rfl (lv_at hl 0 rfl) ?_
        refine gf_RX6_31 C hE hH 0 rfl rfl dX6_write_57 ?_
        refine lv_bipush (v := 40) hx hb dX6_write_60 (by decide) ?_
        refine lv_iload_n hx hb dX6_write_62 rfl (lv_at hl 1 rfl) ?_
        refine lv_imul hx hb dX6_write_63 ?_
        refine lv_iload_n hx hb dX6_write_64 rfl (lv_at hl 2 rfl) ?_
        refine lv_iadd hx hb dX6_write_65 ?_
        obtain ⟨hi_35, hf⟩ := grd_inv hf
        refine xlald C hE hH 10 rfl hi_35 dX6_write_66 ?_
        refine lv_topl (fun v_36 ev_36 => ?_)
        have hf := letb_at hf v_36 ev_36
        refine lv_lstore (lv' := [(5, .long v_36), (0, .ref (ad 0)), (1, .int x1), (2, .int x2), (3, .long x3)]) hx hb dX6_write_67 hl (by decide) rfl (fun ls hl => ?_)
        refine lv_aload_n hx hb dX6_write_69 rfl (lv_at hl 1 rfl) ?_
        refine gf_RX6_31 C hE hH 0 rfl rfl dX6_write_70 ?_
        refine lv_bipush (v := 40) hx hb dX6_write_73 (by decide) ?_
        refine lv_iload_n hx hb dX6_write_75 rfl (lv_at hl 2 rfl) ?_
        refine lv_imul hx hb dX6_write_76 ?_
        refine lv_iload_n hx hb dX6_write_77 rfl (lv_at hl 3 rfl) ?_
        refine lv_iadd hx hb dX6_write_78 ?_
        refine lv_aload_n hx hb dX6_write_79 rfl (lv_at hl 1 rfl) ?_
        refine gf_RX6_25 C hE hH 0 rfl rfl dX6_write_80 ?_
        refine lv_iload_n hx hb dX6_write_83 rfl (lv_at hl 2 rfl) ?_
        obtain ⟨hi_37, hf⟩ := grd_inv hf
        refine xiald C hE hH 6 rfl hi_37 dX6_write_84 ?_
        refine lv_lload_n hx hb dX6_write_85 rfl (lv_at hl 4 rfl) ?_
        obtain ⟨r_38, hc_39, hf⟩ := bind_inv hf
        refine aftPJ (runS C hE hA hH [] rfl rfl (kX6_narrow l g ad _ (G 6 x1.toNatClampNeg) x3 r_38  hc_39) tw_36_0 tw_36_1 tw_1_5 tw_36_2 hdX6_narrow rfl rfl ⟨Nat.le_of_ble_eq_true rfl, Nat.le_of_ble_eq_true rfl⟩ rfl hl.1 (rest := [.int (((40 : Int32) * x1) + x2), .ref (ad 10)]) rfl (Nat.le_of_ble_eq_true rfl) dX6_write_86 ⟨Nat.zero_le _, Nat.zero_le _⟩) ?_
        obtain ⟨hi_40, hf⟩ := grd_inv hf
        refine xlast C hE hH 10 rfl hi_40 (fun q : J2 => wM g ad G q) (st2 J 1 (vp_updL (J 1) (((40 : Int32) * x1) + x2).toNatClampNeg r_38)) rfl dX6_write_89 (fun J_41 eJ_41 H locs hH => ?_)
        have hf := letb_at hf J_41 eJ_41
        refine lv_lload hx hb dX6_write_90 (lv_at hl 0 rfl) ?_
        have hf := Option.some.inj hf
        obtain ⟨h1, hf⟩ := Prod.mk.inj hf
        obtain ⟨h2, h3⟩ := Prod.mk.inj hf
        subst h1
        subst h2
        subst h3
        exact retJ C hH dX6_write_92
      · have hf := if_p hf c_34
        refine lv_aload_n hx hb dX6_write_48 rfl (lv_at hl 0 rfl) ?_
        refine lv_ldc hx hb hown (hT _ tw_5_1) dX6_write_49 ?_
        obtain ⟨r_42, G_43, hc_44, hf⟩ := bind2_inv hf
        refine aftI (runV C hE hA hH [0, 1, 2, 3, 4, 5, 6, 7, 8, 9, 10, 11] nC_M_M_0_11 (sC_M_M_0_11 g ad G J) (kX6_finds l g ad _ G J (-1000000001 : Int32) r_42 G_43  hc_44) tw_5_9 tw_5_10 tw_5_11 tw_1_5 tw_5_12 hdX6_finds 0 rfl rfl rfl rfl ⟨Nat.le_of_ble_eq_true rfl, Nat.le_of_ble_eq_true rfl⟩ rfl hl.1 (rest := []) rfl (Nat.le_of_ble_eq_true rfl) dX6_write_51 ⟨Nat.zero_le _, Nat.zero_le _⟩) hA hH [0, 1, 2, 3, 4, 5, 6, 7, 8, 9, 10, 11] [] (sC_M_M_0_11 g ad G J) (sR_M_M_0_11 g ad G J) nR_M_M_0_11 dj_M_M_0_11 [0, 1, 2, 3, 4, 5, 6, 7, 8, 9, 10, 11] nP_M_M_0_11 (sP_M_M_0_11 g ad G J G_43 J) (fun H locs hH => ?_)
        refine lv_i2l hx hb dX6_write_54 rfl ?_
        have hf := Option.some.inj hf
        obtain ⟨h1, hf⟩ := Prod.mk.inj hf
        obtain ⟨h2, h3⟩ := Prod.mk.inj hf
        subst h1
        subst h2
        subst h3
        exact retJ C hH dX6_write_55
    · have hf := if_p hf c_30
      refine lv_aload_n hx hb dX6_write_24 rfl (lv_at hl 0 rfl) ?_
      refine lv_ldc hx hb hown (hT _ tw_35_23) dX6_write_25 ?_
      obtain ⟨r_45, G_46, hc_47, hf⟩ := bind2_inv hf
      refine aftI (runV C hE hA hH [0, 1, 2, 3, 4, 5, 6, 7, 8, 9, 10, 11] nC_M_M_0_11 (sC_M_M_0_11 g ad G J) (kX6_finds l g ad _ G J (-1000000006 : Int32) r_45 G_46  hc_47) tw_5_9 tw_5_10 tw_5_11 tw_1_5 tw_5_12 hdX6_finds 0 rfl rfl rfl rfl ⟨Nat.le_of_ble_eq_true rfl, Nat.le_of_ble_eq_true rfl⟩ rfl hl.1 (rest := []) rfl (Nat.le_of_ble_eq_true rfl) dX6_write_27 ⟨Nat.zero_le _, Nat.zero_le _⟩) hA hH [0, 1, 2, 3, 4, 5, 6, 7, 8, 9, 10, 11] [] (sC_M_M_0_11 g ad G J) (sR_M_M_0_11 g ad G J) nR_M_M_0_11 dj_M_M_0_11 [0, 1, 2, 3, 4, 5, 6, 7, 8, 9, 10, 11] nP_M_M_0_11 (sP_M_M_0_11 g ad G J G_46 J) (fun H locs hH => ?_)
      refine lv_i2l hx hb dX6_write_30 rfl ?_
      have hf := Option.some.inj hf
      obtain ⟨h1, hf⟩ := Prod.mk.inj hf
      obtain ⟨h2, h3⟩ := Prod.mk.inj hf
      subst h1
      subst h2
      subst h3
      exact retJ C hH dX6_write_31
  · have hf := if_p hf c_28
    refine lv_aload_n hx hb dX6_write_7 rfl (lv_at hl 0 rfl) ?_
    refine lv_ldc hx hb hown (hT _ tw_5_1) dX6_write_8 ?_
    obtain ⟨r_48, G_49, hc_50, hf⟩ := bind2_inv hf
    refine aftI (runV C hE hA hH [0, 1, 2, 3, 4, 5, 6, 7, 8, 9, 10, 11] nC_M_M_0_11 (sC_M_M_0_11 g ad G J) (kX6_finds l g ad _ G J (-1000000001 : Int32) r_48 G_49  hc_50) tw_5_9 tw_5_10 tw_5_11 tw_1_5 tw_5_12 hdX6_finds 0 rfl rfl rfl rfl ⟨Nat.le_of_ble_eq_true rfl, Nat.le_of_ble_eq_true rfl⟩ rfl hl.1 (rest := []) rfl (Nat.le_of_ble_eq_true rfl) dX6_write_10 ⟨Nat.zero_le _, Nat.zero_le _⟩) hA hH [0, 1, 2, 3, 4, 5, 6, 7, 8, 9, 10, 11] [] (sC_M_M_0_11 g ad G J) (sR_M_M_0_11 g ad G J) nR_M_M_0_11 dj_M_M_0_11 [0, 1, 2, 3, 4, 5, 6, 7, 8, 9, 10, 11] nP_M_M_0_11 (sP_M_M_0_11 g ad G J G_49 J) (fun H locs hH => ?_)
    refine lv_i2l hx hb dX6_write_13 rfl ?_
    have hf := Option.some.inj hf
    obtain ⟨h1, hf⟩ := Prod.mk.inj hf
    obtain ⟨h2, h3⟩ := Prod.mk.inj hf
    subst h1
    subst h2
    subst h3
    exact retJ C hH dX6_write_14
def fX6_isPart_c35  (z0 : Int32) (G : M2) (J : J2) : Option (Int32) := grd (isB z0) (some z0)
def fX6_isPart_c34  (G : M2) (J : J2) : Option (Int32) := fX6_isPart_c35  (0 : Int32) G J
def fX6_isPart (x1 : Int32) (x2 : Int32) (x3 : Int32) (G : M2) (J : J2) : Option (Int32) := (if x2 < 0 then fX6_isPart_c34  G J else (if x3 < 0 then fX6_isPart_c34  G J else grd (inb x1 4) ((if (G 7 x1.toNatClampNeg) < x3 then fX6_isPart_c34  G J else grd (inb x1 4) ((if ((G 7 x1.toNatClampNeg) - x3) < x2 then fX6_isPart_c34  G J else fX6_isPart_c35  (1 : Int32) G J))))))
def rmX6_isPart : Room := { frames := 0, cells := 0, slots := 0, locals := 0 }
theorem hdX6_isPart : yX6_isPart.cls = yX6_isPart.cls ∧ yX6_isPart.cls ≠ "java/lang/invoke/MethodHandle" ∧ yX6_isPart.cls ≠ "java/lang/invoke/VarHandle" ∧ (parseMethodDescriptor yX6_isPart.desc).map (fun d => d.parameters.length) = some 3 := by decide +kernel
set_option maxHeartbeats 4000000 in
set_option maxRecDepth 100000 in
theorem kX6_isPart (l : Launch) (g : Gl) (ad : Nat → Nat) (sz : Nat) (G : M2) (J : J2) (x1 : Int32) (x2 : Int32) (x3 : Int32) (r : Int32)  (hf : fX6_isPart x1 x2 x3 G J = some r) : MetPI l yX6_isPart (Cond.code yX6_isPart cX6_isPart 4 (some .boolean) :: wsL_law) rmX6_isPart [.ref (ad 0), .int x1, .int x2, .int x3] g (wM g ad G J) sz r := by
  refine openPI (by decide +kernel) (Nat.le_of_ble_eq_true rfl) ?_
  intro p e s m args below meth c A C hE hA hH ls hl
  have hl : lv_has ls 4 [(0, .ref (ad 0)), (1, .int x1), (2, .int x2), (3, .int x3)] := hl
  have C : Cx p s m args meth c cX6_isPart 4 (some .boolean) RX6 := C
  obtain ⟨hx, hb, hml, hown, hT, hr, hlk⟩ := id C
  rw [fX6_isPart] at hf
  have j_35 : ∀ (z0 : Int32) (ls : Array Slot), fX6_isPart_c35  z0 G J = some r → lv_has ls 4 [] → W p l e rmX6_isPart s m args below meth c s.heap [] 0 0 (QPI below args s r) (F0 m 35 ls [.int z0]) := by
    intro z0  ls hf hl
    rw [fX6_isPart_c35] at hf
    obtain ⟨hz, hf⟩ := grd_inv hf
    have h1 := Option.some.inj hf
    subst h1
    exact retPI C (isB_nar hz) dX6_isPart_35
  have j_34 : ∀  (ls : Array Slot), fX6_isPart_c34  G J = some r → lv_has ls 4 [] → W p l e rmX6_isPart s m args below meth c s.heap [] 0 0 (QPI below args s r) (F0 m 34 ls []) := by
    intro  ls hf hl
    rw [fX6_isPart_c34] at hf
    refine lv_iconst (v := 0) hx hb dX6_isPart_34 (by decide) ?_
    exact j_35 (0 : Int32) ls hf (lv_sub hl [] rfl)
  refine lv_iload_n hx hb dX6_isPart_0 rfl (lv_at hl 2 rfl) ?_
  refine lv_if_lt (tgt := 34) hx hb dX6_isPart_1 (by decide) (fun c_7 => ?_) (fun c_7 => ?_)
  · have hf := if_p hf c_7
    exact j_34  ls hf (lv_sub hl [] rfl)
  · have hf := if_n hf c_7
    refine lv_iload_n hx hb dX6_isPart_4 rfl (lv_at hl 3 rfl) ?_
    refine lv_if_lt (tgt := 34) hx hb dX6_isPart_5 (by decide) (fun c_8 => ?_) (fun c_8 => ?_)
    · have hf := if_p hf c_8
      exact j_34  ls hf (lv_sub hl [] rfl)
    · have hf := if_n hf c_8
      refine lv_iload_n hx hb dX6_isPart_8 rfl (lv_at hl 3 rfl) ?_
      refine lv_aload_n hx hb dX6_isPart_9 rfl (lv_at hl 0 rfl) ?_
      refine gf_RX6_28 C hE hH 0 rfl rfl dX6_isPart_10 ?_
      refine lv_iload_n hx hb dX6_isPart_13 rfl (lv_at hl 1 rfl) ?_
      obtain ⟨hi_9, hf⟩ := grd_inv hf
      refine xiald C hE hH 7 rfl hi_9 dX6_isPart_14 ?_
      refine lv_icmp_gt (tgt := 34) hx hb dX6_isPart_15 (by decide) (fun c_10 => ?_) (fun c_10 => ?_)
      · have hf := if_p hf c_10
        exact j_34  ls hf (lv_sub hl [] rfl)
      · have hf := if_n hf c_10
        refine lv_iload_n hx hb dX6_isPart_18 rfl (lv_at hl 2 rfl) ?_
        refine lv_aload_n hx hb dX6_isPart_19 rfl (lv_at hl 0 rfl) ?_
        refine gf_RX6_28 C hE hH 0 rfl rfl dX6_isPart_20 ?_
        refine lv_iload_n hx hb dX6_isPart_23 rfl (lv_at hl 1 rfl) ?_
        obtain ⟨hi_11, hf⟩ := grd_inv hf
        refine xiald C hE hH 7 rfl hi_11 dX6_isPart_24 ?_
        refine lv_iload_n hx hb dX6_isPart_25 rfl (lv_at hl 3 rfl) ?_
        refine lv_isub hx hb dX6_isPart_26 ?_
        refine lv_icmp_gt (tgt := 34) hx hb dX6_isPart_27 (by decide) (fun c_12 => ?_) (fun c_12 => ?_)
        · have hf := if_p hf c_12
          exact j_34  ls hf (lv_sub hl [] rfl)
        · have hf := if_n hf c_12
          refine lv_iconst (v := 1) hx hb dX6_isPart_30 (by decide) ?_
          refine lv_goto (tgt := 35) hx hb dX6_isPart_31 (by decide) ?_
          exact j_35 (1 : Int32) ls hf (lv_sub hl [] rfl)
def fX6_copy_c14  (G : M2) (J : J2) : Option (Int32 × M2 × J2) := bind2 (fX6_finds (-1000000001 : Int32) G J) (fun (r_42 : Int32) (G_43 : M2) => some (r_42, G_43, J))
def fX6_copy_c39  (G : M2) (J : J2) : Option (Int32 × M2 × J2) := bind2 (fX6_finds (-1000000006 : Int32) G J) (fun (r_45 : Int32) (G_46 : M2) => some (r_45, G_46, J))
def fX6_copy_c91  (G : M2) (J : J2) : Option (Int32 × M2 × J2) := bind2 (fX6_finds (-1000000001 : Int32) G J) (fun (r_48 : Int32) (G_49 : M2) => some (r_48, G_49, J))
def fX6_copy_c173  (y5 : Int32) (G : M2) (J : J2) : Option (Int32 × M2 × J2) := some (y5, G, J)
def fX6_copy_c138  : Nat → Int32 → Int32 → Int32 → Int32 → M2 → J2 → Option (Int32 × M2 × J2)
  | 0, _, _, _, _, _, _ => none
  | n + 1, y3, y4, y5, y6, G, J => (if y5 ≤ y6 then fX6_copy_c173  y5 G J else grd (inb y6 40) (grd (inb ((((40 : Int32) * y3) + y4) + y6) 160) (letb (st2 J 1 (vp_updL (J 1) ((((40 : Int32) * y3) + y4) + y6).toNatClampNeg (J 2 y6.toNatClampNeg))) (fun J_54 : J2 => letb (y6 + (1 : Int32)) (fun v_55 : Int32 => fX6_copy_c138 n y3 y4 y5 v_55 G J_54)))))
def fX6_copy_c135  (y3 : Int32) (y4 : Int32) (y5 : Int32) (G : M2) (J : J2) : Option (Int32 × M2 × J2) := fX6_copy_c138  FU y3 y4 y5 (0 : Int32) G J
def fX6_copy_c101  : Nat → Int32 → Int32 → Int32 → Int32 → Int32 → Int32 → M2 → J2 → Option (Int32 × M2 × J2)
  | 0, _, _, _, _, _, _, _, _ => none
  | n + 1, y1, y2, y3, y4, y5, y6, G, J => (if y5 ≤ y6 then fX6_copy_c135  y3 y4 y5 G J else grd (inb ((((40 : Int32) * y1) + y2) + y6) 160) (grd (inb y6 40) (letb (st2 J 2 (vp_updL (J 2) y6.toNatClampNeg (J 1 ((((40 : Int32) * y1) + y2) + y6).toNatClampNeg))) (fun J_59 : J2 => letb (y6 + (1 : Int32)) (fun v_60 : Int32 => fX6_copy_c101 n y1 y2 y3 y4 y5 v_60 G J_59)))))
def fX6_copy (x1 : Int32) (x2 : Int32) (x3 : Int32) (x4 : Int32) (x5 : Int32) (G : M2) (J : J2) : Option (Int32 × M2 × J2) := (fX6_isSheet x1).bind (fun (r_61 : Int32) => (if r_61 = 0 then fX6_copy_c14  G J else (fX6_isSheet x3).bind (fun (r_64 : Int32) => (if r_64 = 0 then fX6_copy_c14  G J else grd (inb x1 4) ((if (G 6 x1.toNatClampNeg) = 0 then fX6_copy_c39  G J else grd (inb x3 4) ((if (G 6 x3.toNatClampNeg) = 0 then fX6_copy_c39  G J else grd (inb x1 4) (grd (inb x3 4) ((if (G 6 x1.toNatClampNeg) = (G 6 x3.toNatClampNeg) then (fX6_isPart x1 x2 x5 G J).bind (fun (r_74 : Int32) => (if r_74 = 0 then fX6_copy_c91  G J else (fX6_isPart x3 x4 x5 G J).bind (fun (r_77 : Int32) => (if r_77 = 0 then fX6_copy_c91  G J else fX6_copy_c101  FU x1 x2 x3 x4 x5 (0 : Int32) G J)))) else bind2 (fX6_finds (-1000000003 : Int32) G J) (fun (r_80 : Int32) (G_81 : M2) => some (r_80, G_81, J)))))))))))))
def rmX6_copy : Room := { frames := 2, cells := 0, slots := 0, locals := 42 }
theorem hdX6_copy : yX6_copy.cls = yX6_copy.cls ∧ yX6_copy.cls ≠ "java/lang/invoke/MethodHandle" ∧ yX6_copy.cls ≠ "java/lang/invoke/VarHandle" ∧ (parseMethodDescriptor yX6_copy.desc).map (fun d => d.parameters.length) = some 5 := by decide +kernel
set_option maxHeartbeats 4000000 in
set_option maxRecDepth 100000 in
theorem kX6_copy (l : Launch) (g : Gl) (ad : Nat → Nat) (sz : Nat) (G : M2) (J : J2) (x1 : Int32) (x2 : Int32) (x3 : Int32) (x4 : Int32) (x5 : Int32) (r : Int32) (G' : M2) (J' : J2)  (hf : fX6_copy x1 x2 x3 x4 x5 G J = some (r, G', J')) : MetI l yX6_copy (Cond.code yX6_copy cX6_copy 7 (some .int) :: wsL_law) rmX6_copy [.ref (ad 0), .int x1, .int x2, .int x3, .int x4, .int x5] g (wM g ad G J) sz r (wM g ad G' J') := by
  refine openI (by decide +kernel) (Nat.le_of_ble_eq_true rfl) ?_
  intro p e s m args below meth c A C hE hA hH ls hl
  have hl : lv_has ls 7 [(0, .ref (ad 0)), (1, .int x1), (2, .int x2), (3, .int x3), (4, .int x4), (5, .int x5)] := hl
  have C : Cx p s m args meth c cX6_copy 7 (some .int) RX6 := C
  obtain ⟨hx, hb, hml, hown, hT, hr, hlk⟩ := id C
  rw [fX6_copy] at hf
  have j_14 : ∀ (G : M2) (J : J2) (H : Heap) (locs : List Loc) (ls : Array Slot), fX6_copy_c14  G J = some (r, G', J') → Hp g A s H locs (wM g ad G J) → lv_has ls 7 [(0, .ref (ad 0))] → W p l e rmX6_copy s m args below meth c H locs 0 0 (QI g A below args s r (wM g ad G' J')) (F0 m 14 ls []) := by
    intro G J H locs  ls hf hH hl
    rw [fX6_copy_c14] at hf
    refine lv_aload_n hx hb dX6_copy_14 rfl (lv_at hl 0 rfl) ?_
    refine lv_ldc hx hb hown (hT _ tw_5_1) dX6_copy_15 ?_
    obtain ⟨r_42, G_43, hc_44, hf⟩ := bind2_inv hf
    refine aftI (runV C hE hA hH [0, 1, 2, 3, 4, 5, 6, 7, 8, 9, 10, 11] nC_M_M_0_11 (sC_M_M_0_11 g ad G J) (kX6_finds l g ad _ G J (-1000000001 : Int32) r_42 G_43  hc_44) tw_5_9 tw_5_10 tw_5_11 tw_1_5 tw_5_12 hdX6_finds 0 rfl rfl rfl rfl ⟨Nat.le_of_ble_eq_true rfl, Nat.le_of_ble_eq_true rfl⟩ rfl hl.1 (rest := []) rfl (Nat.le_of_ble_eq_true rfl) dX6_copy_17 ⟨Nat.zero_le _, Nat.zero_le _⟩) hA hH [0, 1, 2, 3, 4, 5, 6, 7, 8, 9, 10, 11] [] (sC_M_M_0_11 g ad G J) (sR_M_M_0_11 g ad G J) nR_M_M_0_11 dj_M_M_0_11 [0, 1, 2, 3, 4, 5, 6, 7, 8, 9, 10, 11] nP_M_M_0_11 (sP_M_M_0_11 g ad G J G_43 J) (fun H locs hH => ?_)
    have hf := Option.some.inj hf
    obtain ⟨h1, hf⟩ := Prod.mk.inj hf
    obtain ⟨h2, h3⟩ := Prod.mk.inj hf
    subst h1
    subst h2
    subst h3
    exact retI C hH rfl dX6_copy_20
  have j_39 : ∀ (G : M2) (J : J2) (H : Heap) (locs : List Loc) (ls : Array Slot), fX6_copy_c39  G J = some (r, G', J') → Hp g A s H locs (wM g ad G J) → lv_has ls 7 [(0, .ref (ad 0))] → W p l e rmX6_copy s m args below meth c H locs 0 0 (QI g A below args s r (wM g ad G' J')) (F0 m 39 ls []) := by
    intro G J H locs  ls hf hH hl
    rw [fX6_copy_c39] at hf
    refine lv_aload_n hx hb dX6_copy_39 rfl (lv_at hl 0 rfl) ?_
    refine lv_ldc hx hb hown (hT _ tw_35_23) dX6_copy_40 ?_
    obtain ⟨r_45, G_46, hc_47, hf⟩ := bind2_inv hf
    refine aftI (runV C hE hA hH [0, 1, 2, 3, 4, 5, 6, 7, 8, 9, 10, 11] nC_M_M_0_11 (sC_M_M_0_11 g ad G J) (kX6_finds l g ad _ G J (-1000000006 : Int32) r_45 G_46  hc_47) tw_5_9 tw_5_10 tw_5_11 tw_1_5 tw_5_12 hdX6_finds 0 rfl rfl rfl rfl ⟨Nat.le_of_ble_eq_true rfl, Nat.le_of_ble_eq_true rfl⟩ rfl hl.1 (rest := []) rfl (Nat.le_of_ble_eq_true rfl) dX6_copy_42 ⟨Nat.zero_le _, Nat.zero_le _⟩) hA hH [0, 1, 2, 3, 4, 5, 6, 7, 8, 9, 10, 11] [] (sC_M_M_0_11 g ad G J) (sR_M_M_0_11 g ad G J) nR_M_M_0_11 dj_M_M_0_11 [0, 1, 2, 3, 4, 5, 6, 7, 8, 9, 10, 11] nP_M_M_0_11 (sP_M_M_0_11 g ad G J G_46 J) (fun H locs hH => ?_)
    have hf := Option.some.inj hf
    obtain ⟨h1, hf⟩ := Prod.mk.inj hf
    obtain ⟨h2, h3⟩ := Prod.mk.inj hf
    subst h1
    subst h2
    subst h3
    exact retI C hH rfl dX6_copy_45
  have j_91 : ∀ (G : M2) (J : J2) (H : Heap) (locs : List Loc) (ls : Array Slot), fX6_copy_c91  G J = some (r, G', J') → Hp g A s H locs (wM g ad G J) → lv_has ls 7 [(0, .ref (ad 0))] → W p l e rmX6_copy s m args below meth c H locs 0 0 (QI g A below args s r (wM g ad G' J')) (F0 m 91 ls []) := by
    intro G J H locs  ls hf hH hl
    rw [fX6_copy_c91] at hf
    refine lv_aload_n hx hb dX6_copy_91 rfl (lv_at hl 0 rfl) ?_
    refine lv_ldc hx hb hown (hT _ tw_5_1) dX6_copy_92 ?_
    obtain ⟨r_48, G_49, hc_50, hf⟩ := bind2_inv hf
    refine aftI (runV C hE hA hH [0, 1, 2, 3, 4, 5, 6, 7, 8, 9, 10, 11] nC_M_M_0_11 (sC_M_M_0_11 g ad G J) (kX6_finds l g ad _ G J (-1000000001 : Int32) r_48 G_49  hc_50) tw_5_9 tw_5_10 tw_5_11 tw_1_5 tw_5_12 hdX6_finds 0 rfl rfl rfl rfl ⟨Nat.le_of_ble_eq_true rfl, Nat.le_of_ble_eq_true rfl⟩ rfl hl.1 (rest := []) rfl (Nat.le_of_ble_eq_true rfl) dX6_copy_94 ⟨Nat.zero_le _, Nat.zero_le _⟩) hA hH [0, 1, 2, 3, 4, 5, 6, 7, 8, 9, 10, 11] [] (sC_M_M_0_11 g ad G J) (sR_M_M_0_11 g ad G J) nR_M_M_0_11 dj_M_M_0_11 [0, 1, 2, 3, 4, 5, 6, 7, 8, 9, 10, 11] nP_M_M_0_11 (sP_M_M_0_11 g ad G J G_49 J) (fun H locs hH => ?_)
    have hf := Option.some.inj hf
    obtain ⟨h1, hf⟩ := Prod.mk.inj hf
    obtain ⟨h2, h3⟩ := Prod.mk.inj hf
    subst h1
    subst h2
    subst h3
    exact retI C hH rfl dX6_copy_97
  have lp_101 : ∀ (n_101 : Nat) (y1 : Int32) (y2 : Int32) (y3 : Int32) (y4 : Int32) (y5 : Int32) (y6 : Int32) (G : M2) (J : J2) (H : Heap) (locs : List Loc) (ls : Array Slot), fX6_copy_c101  n_101 y1 y2 y3 y4 y5 y6 G J = some (r, G', J') → Hp g A s H locs (wM g ad G J) → lv_has ls 7 [(0, .ref (ad 0)), (1, .int y1), (2, .int y2), (3, .int y3), (4, .int y4), (5, .int y5), (6, .int y6)] → W p l e rmX6_copy s m args below meth c H locs 0 0 (QI g A below args s r (wM g ad G' J')) (F0 m 101 ls []) := by
    intro n_101
    induction n_101 with
    | zero =>
      intro y1 y2 y3 y4 y5 y6 G J H locs  ls hf hH hl
      rw [fX6_copy_c101] at hf
      cases hf
    | succ n_101 ih_101 =>
      intro y1 y2 y3 y4 y5 y6 G J H locs  ls hf hH hl
      rw [fX6_copy_c101] at hf
      have j_135 : ∀ (y3 : Int32) (y4 : Int32) (y5 : Int32) (G : M2) (J : J2) (H : Heap) (locs : List Loc) (ls : Array Slot), fX6_copy_c135  y3 y4 y5 G J = some (r, G', J') → Hp g A s H locs (wM g ad G J) → lv_has ls 7 [(0, .ref (ad 0)), (3, .int y3), (4, .int y4), (5, .int y5)] → W p l e rmX6_copy s m args below meth c H locs 0 0 (QI g A below args s r (wM g ad G' J')) (F0 m 135 ls []) := by
        intro y3 y4 y5 G J H locs  ls hf hH hl
        rw [fX6_copy_c135] at hf
        have lp_138 : ∀ (n_138 : Nat) (y3 : Int32) (y4 : Int32) (y5 : Int32) (y6 : Int32) (G : M2) (J : J2) (H : Heap) (locs : List Loc) (ls : Array Slot), fX6_copy_c138  n_138 y3 y4 y5 y6 G J = some (r, G', J') → Hp g A s H locs (wM g ad G J) → lv_has ls 7 [(0, .ref (ad 0)), (3, .int y3), (4, .int y4), (5, .int y5), (6, .int y6)] → W p l e rmX6_copy s m args below meth c H locs 0 0 (QI g A below args s r (wM g ad G' J')) (F0 m 138 ls []) := by
          intro n_138
          induction n_138 with
          | zero =>
            intro y3 y4 y5 y6 G J H locs  ls hf hH hl
            rw [fX6_copy_c138] at hf
            cases hf
          | succ n_138 ih_138 =>
            intro y3 y4 y5 y6 G J H locs  ls hf hH hl
            rw [fX6_copy_c138] at hf
            have j_173 : ∀ (y5 : Int32) (G : M2) (J : J2) (H : Heap) (locs : List Loc) (ls : Array Slot), fX6_copy_c173  y5 G J = some (r, G', J') → Hp g A s H locs (wM g ad G J) → lv_has ls 7 [(5, .int y5)] → W p l e rmX6_copy s m args below meth c H locs 0 0 (QI g A below args s r (wM g ad G' J')) (F0 m 173 ls []) := by
              intro y5 G J H locs  ls hf hH hl
              rw [fX6_copy_c173] at hf
              refine lv_iload hx hb dX6_copy_173 (lv_at hl 0 rfl) ?_
              have hf := Option.some.inj hf
              obtain ⟨h1, hf⟩ := Prod.mk.inj hf
              obtain ⟨h2, h3⟩ := Prod.mk.inj hf
              subst h1
              subst h2
              subst h3
              exact retI C hH rfl dX6_copy_175
            refine lv_iload hx hb dX6_copy_138 (lv_at hl 4 rfl) ?_
            refine lv_iload hx hb dX6_copy_140 (lv_at hl 3 rfl) ?_
            refine lv_icmp_ge (tgt := 173) hx hb dX6_copy_142 (by decide) (fun c_51 => ?_) (fun c_51 => ?_)
            · have hf := if_p hf c_51
              exact j_173 y5 G J _ _ ls hf hH (lv_sub hl [3] rfl)
            · have hf := if_n hf c_51
              refine lv_aload_n hx hb dX6_copy_145 rfl (lv_at hl 0 rfl) ?_
              refine gf_RX6_31 C hE hH 0 rfl rfl dX6_copy_146 ?_
              refine lv_bipush (v := 40) hx hb dX6_copy_149 (by decide) ?_
              refine lv_iload_n hx hb dX6_copy_151 rfl (lv_at hl 1 rfl) ?_
              refine lv_imul hx hb dX6_copy_152 ?_
              refine lv_iload hx hb dX6_copy_153 (lv_at hl 2 rfl) ?_
              refine lv_iadd hx hb dX6_copy_155 ?_
              refine lv_iload hx hb dX6_copy_156 (lv_at hl 4 rfl) ?_
              refine lv_iadd hx hb dX6_copy_158 ?_
              refine lv_aload_n hx hb dX6_copy_159 rfl (lv_at hl 0 rfl) ?_
              refine gf_RX6_35 C hE hH 0 rfl rfl dX6_copy_160 ?_
              refine lv_iload hx hb dX6_copy_163 (lv_at hl 4 rfl) ?_
              obtain ⟨hi_52, hf⟩ := grd_inv hf
              refine xlald C hE hH 11 rfl hi_52 dX6_copy_165 ?_
              obtain ⟨hi_53, hf⟩ := grd_inv hf
              refine xlast C hE hH 10 rfl hi_53 (fun q : J2 => wM g ad G q) (st2 J 1 (vp_updL (J 1) ((((40 : Int32) * y3) + y4) + y6).toNatClampNeg (J 2 y6.toNatClampNeg))) rfl dX6_copy_166 (fun J_54 eJ_54 H locs hH => ?_)
              have hf := letb_at hf J_54 eJ_54
              obtain ⟨v_55, ev_55⟩ : ∃ z : Int32, z = y6 + (1 : Int32) := ⟨_, rfl⟩
              have hf := letb_at hf v_55 ev_55
              refine lv_iinc (v := v_55) (lv' := [(6, .int v_55), (0, .ref (ad 0)), (3, .int y3), (4, .int y4), (5, .int y5)]) hx hb dX6_copy_167 hl (k := 4) rfl (by rw [ev_55]; rfl) (by decide) rfl (fun ls hl => ?_)
              refine lv_goto (tgt := 138) hx hb dX6_copy_170 (by decide) ?_
              exact ih_138 y3 y4 y5 v_55 G J_54 _ _ ls hf hH (lv_sub hl [1, 2, 3, 4, 0] rfl)
        refine lv_iconst (v := 0) hx hb dX6_copy_135 (by decide) ?_
        refine lv_istore (lv' := [(6, .int (0 : Int32)), (0, .ref (ad 0)), (3, .int y3), (4, .int y4), (5, .int y5)]) hx hb dX6_copy_136 hl (by decide) rfl (fun ls hl => ?_)
        exact lp_138 _ y3 y4 y5 (0 : Int32) G J _ _ ls hf hH (lv_sub hl [1, 2, 3, 4, 0] rfl)
      refine lv_iload hx hb dX6_copy_101 (lv_at hl 6 rfl) ?_
      refine lv_iload hx hb dX6_copy_103 (lv_at hl 5 rfl) ?_
      refine lv_icmp_ge (tgt := 135) hx hb dX6_copy_105 (by decide) (fun c_56 => ?_) (fun c_56 => ?_)
      · have hf := if_p hf c_56
        exact j_135 y3 y4 y5 G J _ _ ls hf hH (lv_sub hl [0, 3, 4, 5] rfl)
      · have hf := if_n hf c_56
        refine lv_aload_n hx hb dX6_copy_108 rfl (lv_at hl 0 rfl) ?_
        refine gf_RX6_35 C hE hH 0 rfl rfl dX6_copy_109 ?_
        refine lv_iload hx hb dX6_copy_112 (lv_at hl 6 rfl) ?_
        refine lv_aload_n hx hb dX6_copy_114 rfl (lv_at hl 0 rfl) ?_
        refine gf_RX6_31 C hE hH 0 rfl rfl dX6_copy_115 ?_
        refine lv_bipush (v := 40) hx hb dX6_copy_118 (by decide) ?_
        refine lv_iload_n hx hb dX6_copy_120 rfl (lv_at hl 1 rfl) ?_
        refine lv_imul hx hb dX6_copy_121 ?_
        refine lv_iload_n hx hb dX6_copy_122 rfl (lv_at hl 2 rfl) ?_
        refine lv_iadd hx hb dX6_copy_123 ?_
        refine lv_iload hx hb dX6_copy_124 (lv_at hl 6 rfl) ?_
        refine lv_iadd hx hb dX6_copy_126 ?_
        obtain ⟨hi_57, hf⟩ := grd_inv hf
        refine xlald C hE hH 10 rfl hi_57 dX6_copy_127 ?_
        obtain ⟨hi_58, hf⟩ := grd_inv hf
        refine xlast C hE hH 11 rfl hi_58 (fun q : J2 => wM g ad G q) (st2 J 2 (vp_updL (J 2) y6.toNatClampNeg (J 1 ((((40 : Int32) * y1) + y2) + y6).toNatClampNeg))) rfl dX6_copy_128 (fun J_59 eJ_59 H locs hH => ?_)
        have hf := letb_at hf J_59 eJ_59
        obtain ⟨v_60, ev_60⟩ : ∃ z : Int32, z = y6 + (1 : Int32) := ⟨_, rfl⟩
        have hf := letb_at hf v_60 ev_60
        refine lv_iinc (v := v_60) (lv' := [(6, .int v_60), (0, .ref (ad 0)), (1, .int y1), (2, .int y2), (3, .int y3), (4, .int y4), (5, .int y5)]) hx hb dX6_copy_129 hl (k := 6) rfl (by rw [ev_60]; rfl) (by decide) rfl (fun ls hl => ?_)
        refine lv_goto (tgt := 101) hx hb dX6_copy_132 (by decide) ?_
        exact ih_101 y1 y2 y3 y4 y5 v_60 G J_59 _ _ ls hf hH (lv_sub hl [1, 2, 3, 4, 5, 6, 0] rfl)
  refine lv_iload_n hx hb dX6_copy_0 rfl (lv_at hl 1 rfl) ?_
  obtain ⟨r_61, hc_62, hf⟩ := bind_inv hf
  refine aftPI (runS C hE hA hH [] rfl rfl (kX6_isSheet l g ad _ x1 r_61  hc_62) tw_35_2 tw_35_3 tw_1_5 tw_35_4 hdX6_isSheet rfl rfl ⟨Nat.le_of_ble_eq_true rfl, Nat.le_of_ble_eq_true rfl⟩ rfl hl.1 (rest := []) rfl (Nat.le_of_ble_eq_true rfl) dX6_copy_1 ⟨Nat.zero_le _, Nat.zero_le _⟩) ?_
  refine lv_if_eq (tgt := 14) hx hb dX6_copy_4 (by decide) (fun c_63 => ?_) (fun c_63 => ?_)
  · have hf := if_p hf c_63
    exact j_14 G J _ _ ls hf hH (lv_sub hl [0] rfl)
  · have hf := if_n hf c_63
    refine lv_iload_n hx hb dX6_copy_7 rfl (lv_at hl 3 rfl) ?_
    obtain ⟨r_64, hc_65, hf⟩ := bind_inv hf
    refine aftPI (runS C hE hA hH [] rfl rfl (kX6_isSheet l g ad _ x3 r_64  hc_65) tw_35_2 tw_35_3 tw_1_5 tw_35_4 hdX6_isSheet rfl rfl ⟨Nat.le_of_ble_eq_true rfl, Nat.le_of_ble_eq_true rfl⟩ rfl hl.1 (rest := []) rfl (Nat.le_of_ble_eq_true rfl) dX6_copy_8 ⟨Nat.zero_le _, Nat.zero_le _⟩) ?_
    refine lv_if_ne (tgt := 21) hx hb dX6_copy_11 (by decide) (fun c_66 => ?_) (fun c_66 => ?_)
    · have hf := if_n hf c_66
      refine lv_aload_n hx hb dX6_copy_21 rfl (lv_at hl 0 rfl) ?_
      refine gf_RX6_25 C hE hH 0 rfl rfl dX6_copy_22 ?_
      refine lv_iload_n hx hb dX6_copy_25 rfl (lv_at hl 1 rfl) ?_
      obtain ⟨hi_67, hf⟩ := grd_inv hf
      refine xiald C hE hH 6 rfl hi_67 dX6_copy_26 ?_
      refine lv_if_eq (tgt := 39) hx hb dX6_copy_27 (by decide) (fun c_68 => ?_) (fun c_68 => ?_)
      · have hf := if_p hf c_68
        exact j_39 G J _ _ ls hf hH (lv_sub hl [0] rfl)
      · have hf := if_n hf c_68
        refine lv_aload_n hx hb dX6_copy_30 rfl (lv_at hl 0 rfl) ?_
        refine gf_RX6_25 C hE hH 0 rfl rfl dX6_copy_31 ?_
        refine lv_iload_n hx hb dX6_copy_34 rfl (lv_at hl 3 rfl) ?_
        obtain ⟨hi_69, hf⟩ := grd_inv hf
        refine xiald C hE hH 6 rfl hi_69 dX6_copy_35 ?_
        refine lv_if_ne (tgt := 46) hx hb dX6_copy_36 (by decide) (fun c_70 => ?_) (fun c_70 => ?_)
        · have hf := if_n hf c_70
          refine lv_aload_n hx hb dX6_copy_46 rfl (lv_at hl 0 rfl) ?_
          refine gf_RX6_25 C hE hH 0 rfl rfl dX6_copy_47 ?_
          refine lv_iload_n hx hb dX6_copy_50 rfl (lv_at hl 1 rfl) ?_
          obtain ⟨hi_71, hf⟩ := grd_inv hf
          refine xiald C hE hH 6 rfl hi_71 dX6_copy_51 ?_
          refine lv_aload_n hx hb dX6_copy_52 rfl (lv_at hl 0 rfl) ?_
          refine gf_RX6_25 C hE hH 0 rfl rfl dX6_copy_53 ?_
          refine lv_iload_n hx hb dX6_copy_56 rfl (lv_at hl 3 rfl) ?_
          obtain ⟨hi_72, hf⟩ := grd_inv hf
          refine xiald C hE hH 6 rfl hi_72 dX6_copy_57 ?_
          refine lv_icmp_eq (tgt := 68) hx hb dX6_copy_58 (by decide) (fun c_73 => ?_) (fun c_73 => ?_)
          · have hf := if_p hf c_73
            refine lv_aload_n hx hb dX6_copy_68 rfl (lv_at hl 0 rfl) ?_
            refine lv_iload_n hx hb dX6_copy_69 rfl (lv_at hl 1 rfl) ?_
            refine lv_iload_n hx hb dX6_copy_70 rfl (lv_at hl 2 rfl) ?_
            refine lv_iload hx hb dX6_copy_71 (lv_at hl 5 rfl) ?_
            obtain ⟨r_74, hc_75, hf⟩ := bind_inv hf
            refine aftPI (runV C hE hA hH [0, 1, 2, 3, 4, 5, 6, 7, 8, 9, 10, 11] nC_M_M_0_11 (sC_M_M_0_11 g ad G J) (kX6_isPart l g ad _ G J x1 x2 x5 r_74  hc_75) tw_36_17 tw_36_18 tw_36_19 tw_1_5 tw_36_20 hdX6_isPart 0 rfl rfl rfl rfl ⟨Nat.le_of_ble_eq_true rfl, Nat.le_of_ble_eq_true rfl⟩ rfl hl.1 (rest := []) rfl (Nat.le_of_ble_eq_true rfl) dX6_copy_73 ⟨Nat.zero_le _, Nat.zero_le _⟩) ?_
            refine lv_if_eq (tgt := 91) hx hb dX6_copy_76 (by decide) (fun c_76 => ?_) (fun c_76 => ?_)
            · have hf := if_p hf c_76
              exact j_91 G J _ _ ls hf hH (lv_sub hl [0] rfl)
            · have hf := if_n hf c_76
              refine lv_aload_n hx hb dX6_copy_79 rfl (lv_at hl 0 rfl) ?_
              refine lv_iload_n hx hb dX6_copy_80 rfl (lv_at hl 3 rfl) ?_
              refine lv_iload hx hb dX6_copy_81 (lv_at hl 4 rfl) ?_
              refine lv_iload hx hb dX6_copy_83 (lv_at hl 5 rfl) ?_
              obtain ⟨r_77, hc_78, hf⟩ := bind_inv hf
              refine aftPI (runV C hE hA hH [0, 1, 2, 3, 4, 5, 6, 7, 8, 9, 10, 11] nC_M_M_0_11 (sC_M_M_0_11 g ad G J) (kX6_isPart l g ad _ G J x3 x4 x5 r_77  hc_78) tw_36_17 tw_36_18 tw_36_19 tw_1_5 tw_36_20 hdX6_isPart 0 rfl rfl rfl rfl ⟨Nat.le_of_ble_eq_true rfl, Nat.le_of_ble_eq_true rfl⟩ rfl hl.1 (rest := []) rfl (Nat.le_of_ble_eq_true rfl) dX6_copy_85 ⟨Nat.zero_le _, Nat.zero_le _⟩) ?_
              refine lv_if_ne (tgt := 98) hx hb dX6_copy_88 (by decide) (fun c_79 => ?_) (fun c_79 => ?_)
              · have hf := if_n hf c_79
                refine lv_iconst (v := 0) hx hb dX6_copy_98 (by decide) ?_
                refine lv_istore (lv' := [(6, .int (0 : Int32)), (0, .ref (ad 0)), (1, .int x1), (2, .int x2), (3, .int x3), (4, .int x4), (5, .int x5)]) hx hb dX6_copy_99 hl (by decide) rfl (fun ls hl => ?_)
                exact lp_101 _ x1 x2 x3 x4 x5 (0 : Int32) G J _ _ ls hf hH (lv_sub hl [1, 2, 3, 4, 5, 6, 0] rfl)
              · have hf := if_p hf c_79
                exact j_91 G J _ _ ls hf hH (lv_sub hl [0] rfl)
          · have hf := if_n hf c_73
            refine lv_aload_n hx hb dX6_copy_61 rfl (lv_at hl 0 rfl) ?_
            refine lv_ldc hx hb hown (hT _ tw_13_18) dX6_copy_62 ?_
            obtain ⟨r_80, G_81, hc_82, hf⟩ := bind2_inv hf
            refine aftI (runV C hE hA hH [0, 1, 2, 3, 4, 5, 6, 7, 8, 9, 10, 11] nC_M_M_0_11 (sC_M_M_0_11 g ad G J) (kX6_finds l g ad _ G J (-1000000003 : Int32) r_80 G_81  hc_82) tw_5_9 tw_5_10 tw_5_11 tw_1_5 tw_5_12 hdX6_finds 0 rfl rfl rfl rfl ⟨Nat.le_of_ble_eq_true rfl, Nat.le_of_ble_eq_true rfl⟩ rfl hl.1 (rest := []) rfl (Nat.le_of_ble_eq_true rfl) dX6_copy_64 ⟨Nat.zero_le _, Nat.zero_le _⟩) hA hH [0, 1, 2, 3, 4, 5, 6, 7, 8, 9, 10, 11] [] (sC_M_M_0_11 g ad G J) (sR_M_M_0_11 g ad G J) nR_M_M_0_11 dj_M_M_0_11 [0, 1, 2, 3, 4, 5, 6, 7, 8, 9, 10, 11] nP_M_M_0_11 (sP_M_M_0_11 g ad G J G_81 J) (fun H locs hH => ?_)
            have hf := Option.some.inj hf
            obtain ⟨h1, hf⟩ := Prod.mk.inj hf
            obtain ⟨h2, h3⟩ := Prod.mk.inj hf
            subst h1
            subst h2
            subst h3
            exact retI C hH rfl dX6_copy_67
        · have hf := if_p hf c_70
          exact j_39 G J _ _ ls hf hH (lv_sub hl [0] rfl)
    · have hf := if_p hf c_66
      exact j_14 G J _ _ ls hf hH (lv_sub hl [0] rfl)
def fX6_badSheet_c27  (z0 : Int32) (G : M2) (J : J2) : Option (Int32) := some z0
def fX6_badSheet (x1 : Int32) (G : M2) (J : J2) : Option (Int32) := (fX6_isSheet x1).bind (fun (r_6 : Int32) => (if r_6 = 0 then fX6_badSheet_c27  (-1000000001 : Int32) G J else grd (inb x1 4) ((if (G 6 x1.toNatClampNeg) = 0 then fX6_badSheet_c27  (-1000000006 : Int32) G J else fX6_badSheet_c27  (0 : Int32) G J))))
def rmX6_badSheet : Room := { frames := 2, cells := 0, slots := 0, locals := 42 }
theorem hdX6_badSheet : yX6_badSheet.cls = yX6_badSheet.cls ∧ yX6_badSheet.cls ≠ "java/lang/invoke/MethodHandle" ∧ yX6_badSheet.cls ≠ "java/lang/invoke/VarHandle" ∧ (parseMethodDescriptor yX6_badSheet.desc).map (fun d => d.parameters.length) = some 1 := by decide +kernel
set_option maxHeartbeats 4000000 in
set_option maxRecDepth 100000 in
theorem kX6_badSheet (l : Launch) (g : Gl) (ad : Nat → Nat) (sz : Nat) (G : M2) (J : J2) (x1 : Int32) (r : Int32)  (hf : fX6_badSheet x1 G J = some r) : MetPI l yX6_badSheet (Cond.code yX6_badSheet cX6_badSheet 2 (some .int) :: wsL_law) rmX6_badSheet [.ref (ad 0), .int x1] g (wM g ad G J) sz r := by
  refine openPI (by decide +kernel) (Nat.le_of_ble_eq_true rfl) ?_
  intro p e s m args below meth c A C hE hA hH ls hl
  have hl : lv_has ls 2 [(0, .ref (ad 0)), (1, .int x1)] := hl
  have C : Cx p s m args meth c cX6_badSheet 2 (some .int) RX6 := C
  obtain ⟨hx, hb, hml, hown, hT, hr, hlk⟩ := id C
  rw [fX6_badSheet] at hf
  have j_27 : ∀ (z0 : Int32) (ls : Array Slot), fX6_badSheet_c27  z0 G J = some r → lv_has ls 2 [] → W p l e rmX6_badSheet s m args below meth c s.heap [] 0 0 (QPI below args s r) (F0 m 27 ls [.int z0]) := by
    intro z0  ls hf hl
    rw [fX6_badSheet_c27] at hf
    have h1 := Option.some.inj hf
    subst h1
    exact retPI C rfl dX6_badSheet_27
  refine lv_iload_n hx hb dX6_badSheet_0 rfl (lv_at hl 1 rfl) ?_
  obtain ⟨r_6, hc_7, hf⟩ := bind_inv hf
  refine aftPI (runS C hE hA hH [] rfl rfl (kX6_isSheet l g ad _ x1 r_6  hc_7) tw_35_2 tw_35_3 tw_1_5 tw_35_4 hdX6_isSheet rfl rfl ⟨Nat.le_of_ble_eq_true rfl, Nat.le_of_ble_eq_true rfl⟩ rfl hl.1 (rest := []) rfl (Nat.le_of_ble_eq_true rfl) dX6_badSheet_1 ⟨Nat.zero_le _, Nat.zero_le _⟩) ?_
  refine lv_if_ne (tgt := 12) hx hb dX6_badSheet_4 (by decide) (fun c_8 => ?_) (fun c_8 => ?_)
  · have hf := if_n hf c_8
    refine lv_aload_n hx hb dX6_badSheet_12 rfl (lv_at hl 0 rfl) ?_
    refine gf_RX6_25 C hE hH 0 rfl rfl dX6_badSheet_13 ?_
    refine lv_iload_n hx hb dX6_badSheet_16 rfl (lv_at hl 1 rfl) ?_
    obtain ⟨hi_9, hf⟩ := grd_inv hf
    refine xiald C hE hH 6 rfl hi_9 dX6_badSheet_17 ?_
    refine lv_if_ne (tgt := 26) hx hb dX6_badSheet_18 (by decide) (fun c_10 => ?_) (fun c_10 => ?_)
    · have hf := if_n hf c_10
      refine lv_iconst (v := 0) hx hb dX6_badSheet_26 (by decide) ?_
      exact j_27 (0 : Int32) ls hf (lv_sub hl [] rfl)
    · have hf := if_p hf c_10
      refine lv_ldc hx hb hown (hT _ tw_35_23) dX6_badSheet_21 ?_
      refine lv_goto (tgt := 27) hx hb dX6_badSheet_23 (by decide) ?_
      exact j_27 (-1000000006 : Int32) ls hf (lv_sub hl [] rfl)
  · have hf := if_p hf c_8
    refine lv_ldc hx hb hown (hT _ tw_5_1) dX6_badSheet_7 ?_
    refine lv_goto (tgt := 27) hx hb dX6_badSheet_9 (by decide) ?_
    exact j_27 (-1000000001 : Int32) ls hf (lv_sub hl [] rfl)
def fX6_lays_c91  (y3 : Int32) (G : M2) (J : J2) : Option (Int32 × M2) := some (y3, G)
def fX6_lays_c85 (k_21 : Int32 → Int32 → Int32 → M2 → J2 → Option (Int32 × M2)) (y1 : Int32) (y3 : Int32) (y4 : Int32) (G : M2) (J : J2) : Option (Int32 × M2) := letb (y4 + (1 : Int32)) (fun v_18 : Int32 => k_21 y1 y3 v_18 G J)
def fX6_lays_c21  : Nat → Int32 → Int32 → Int32 → M2 → J2 → Option (Int32 × M2)
  | 0, _, _, _, _, _ => none
  | n + 1, y1, y3, y4, G, J => grd (inb y1 4) ((if (G 7 y1.toNatClampNeg) ≤ y4 then fX6_lays_c91  y3 G J else (if (28 : Int32) ≤ y4 then fX6_lays_c91  y3 G J else grd (inb (((40 : Int32) * y1) + y4) 160) (letb (J 1 (((40 : Int32) * y1) + y4).toNatClampNeg) (fun v_23 : Int64 => (if (lg_cmp v_23 (0 : Int64)) < 0 then fX6_lays_c85 (fX6_lays_c21 n) y1 y3 y4 G J else (if 0 < (lg_cmp v_23 (12 : Int64)) then fX6_lays_c85 (fX6_lays_c21 n) y1 y3 y4 G J else grd (inb ((7 : Int32) + y4) 75) (letb (st2 G 1 (upd (G 1) ((7 : Int32) + y4).toNatClampNeg (v_23.toInt32))) (fun G_27 : M2 => letb (y3 + (1 : Int32)) (fun v_28 : Int32 => fX6_lays_c85 (fX6_lays_c21 n) y1 v_28 y4 G_27 J))))))))))
def fX6_lays (x1 : Int32) (G : M2) (J : J2) : Option (Int32 × M2) := (fX6_badSheet x1 G J).bind (fun (r_29 : Int32) => (if r_29 = 0 then fX6_lays_c21  FU x1 (0 : Int32) (0 : Int32) G J else bind2 (fX6_finds r_29 G J) (fun (r_32 : Int32) (G_33 : M2) => some (r_32, G_33))))
def rmX6_lays : Room := { frames := 3, cells := 0, slots := 0, locals := 63 }
theorem hdX6_lays : yX6_lays.cls = yX6_lays.cls ∧ yX6_lays.cls ≠ "java/lang/invoke/MethodHandle" ∧ yX6_lays.cls ≠ "java/lang/invoke/VarHandle" ∧ (parseMethodDescriptor yX6_lays.desc).map (fun d => d.parameters.length) = some 1 := by decide +kernel
set_option maxHeartbeats 4000000 in
set_option maxRecDepth 100000 in
theorem kX6_lays (l : Launch) (g : Gl) (ad : Nat → Nat) (sz : Nat) (G : M2) (J : J2) (x1 : Int32) (r : Int32) (G' : M2)  (hf : fX6_lays x1 G J = some (r, G')) : MetI l yX6_lays (Cond.code yX6_lays cX6_lays 7 (some .int) :: wsL_law) rmX6_lays [.ref (ad 0), .int x1] g (wM g ad G J) sz r (wM g ad G' J) := by
  refine openI (by decide +kernel) (Nat.le_of_ble_eq_true rfl) ?_
  intro p e s m args below meth c A C hE hA hH ls hl
  have hl : lv_has ls 7 [(0, .ref (ad 0)), (1, .int x1)] := hl
  have C : Cx p s m args meth c cX6_lays 7 (some .int) RX6 := C
  obtain ⟨hx, hb, hml, hown, hT, hr, hlk⟩ := id C
  rw [fX6_lays] at hf
  have lp_21 : ∀ (n_21 : Nat) (y1 : Int32) (y3 : Int32) (y4 : Int32) (G : M2) (H : Heap) (locs : List Loc) (ls : Array Slot), fX6_lays_c21  n_21 y1 y3 y4 G J = some (r, G') → Hp g A s H locs (wM g ad G J) → lv_has ls 7 [(0, .ref (ad 0)), (1, .int y1), (3, .int y3), (4, .int y4)] → W p l e rmX6_lays s m args below meth c H locs 0 0 (QI g A below args s r (wM g ad G' J)) (F0 m 21 ls []) := by
    intro n_21
    induction n_21 with
    | zero =>
      intro y1 y3 y4 G H locs  ls hf hH hl
      rw [fX6_lays_c21] at hf
      cases hf
    | succ n_21 ih_21 =>
      intro y1 y3 y4 G H locs  ls hf hH hl
      rw [fX6_lays_c21] at hf
      have j_91 : ∀ (y3 : Int32) (G : M2) (H : Heap) (locs : List Loc) (ls : Array Slot), fX6_lays_c91  y3 G J = some (r, G') → Hp g A s H locs (wM g ad G J) → lv_has ls 7 [(3, .int y3)] → W p l e rmX6_lays s m args below meth c H locs 0 0 (QI g A below args s r (wM g ad G' J)) (F0 m 91 ls []) := by
        intro y3 G H locs  ls hf hH hl
        rw [fX6_lays_c91] at hf
        refine lv_iload_n hx hb dX6_lays_91 rfl (lv_at hl 0 rfl) ?_
        have hf := Option.some.inj hf
        obtain ⟨h1, h2⟩ := Prod.mk.inj hf
        subst h1
        subst h2
        exact retI C hH rfl dX6_lays_92
      have j_85 : ∀ (y1 : Int32) (y3 : Int32) (y4 : Int32) (G : M2) (H : Heap) (locs : List Loc) (ls : Array Slot), fX6_lays_c85 (fX6_lays_c21 n_21) y1 y3 y4 G J = some (r, G') → Hp g A s H locs (wM g ad G J) → lv_has ls 7 [(0, .ref (ad 0)), (1, .int y1), (3, .int y3), (4, .int y4)] → W p l e rmX6_lays s m args below meth c H locs 0 0 (QI g A below args s r (wM g ad G' J)) (F0 m 85 ls []) := by
        intro y1 y3 y4 G H locs  ls hf hH hl
        rw [fX6_lays_c85] at hf
        obtain ⟨v_18, ev_18⟩ : ∃ z : Int32, z = y4 + (1 : Int32) := ⟨_, rfl⟩
        have hf := letb_at hf v_18 ev_18
        refine lv_iinc (v := v_18) (lv' := [(4, .int v_18), (0, .ref (ad 0)), (1, .int y1), (3, .int y3)]) hx hb dX6_lays_85 hl (k := 3) rfl (by rw [ev_18]; rfl) (by decide) rfl (fun ls hl => ?_)
        refine lv_goto (tgt := 21) hx hb dX6_lays_88 (by decide) ?_
        exact ih_21 y1 y3 v_18 G _ _ ls hf hH (lv_sub hl [1, 2, 3, 0] rfl)
      refine lv_iload hx hb dX6_lays_21 (lv_at hl 3 rfl) ?_
      refine lv_aload_n hx hb dX6_lays_23 rfl (lv_at hl 0 rfl) ?_
      refine gf_RX6_28 C hE hH 0 rfl rfl dX6_lays_24 ?_
      refine lv_iload_n hx hb dX6_lays_27 rfl (lv_at hl 1 rfl) ?_
      obtain ⟨hi_19, hf⟩ := grd_inv hf
      refine xiald C hE hH 7 rfl hi_19 dX6_lays_28 ?_
      refine lv_icmp_ge (tgt := 91) hx hb dX6_lays_29 (by decide) (fun c_20 => ?_) (fun c_20 => ?_)
      · have hf := if_p hf c_20
        exact j_91 y3 G _ _ ls hf hH (lv_sub hl [2] rfl)
      · have hf := if_n hf c_20
        refine lv_iload hx hb dX6_lays_32 (lv_at hl 3 rfl) ?_
        refine lv_bipush (v := 28) hx hb dX6_lays_34 (by decide) ?_
        refine lv_icmp_ge (tgt := 91) hx hb dX6_lays_36 (by decide) (fun c_21 => ?_) (fun c_21 => ?_)
        · have hf := if_p hf c_21
          exact j_91 y3 G _ _ ls hf hH (lv_sub hl [2] rfl)
        · have hf := if_n hf c_21
          refine lv_aload_n hx hb dX6_lays_39 rfl (lv_at hl 0 rfl) ?_
          refine gf_RX6_31 C hE hH 0 rfl rfl dX6_lays_40 ?_
          refine lv_bipush (v := 40) hx hb dX6_lays_43 (by decide) ?_
          refine lv_iload_n hx hb dX6_lays_45 rfl (lv_at hl 1 rfl) ?_
          refine lv_imul hx hb dX6_lays_46 ?_
          refine lv_iload hx hb dX6_lays_47 (lv_at hl 3 rfl) ?_
          refine lv_iadd hx hb dX6_lays_49 ?_
          obtain ⟨hi_22, hf⟩ := grd_inv hf
          refine xlald C hE hH 10 rfl hi_22 dX6_lays_50 ?_
          refine lv_topl (fun v_23 ev_23 => ?_)
          have hf := letb_at hf v_23 ev_23
          refine lv_lstore (lv' := [(5, .long v_23), (0, .ref (ad 0)), (1, .int y1), (3, .int y3), (4, .int y4)]) hx hb dX6_lays_51 hl (by decide) rfl (fun ls hl => ?_)
          refine lv_lload hx hb dX6_lays_53 (lv_at hl 0 rfl) ?_
          refine lv_lconst (v := 0) hx hb dX6_lays_55 (by decide) ?_
          refine W.lcmp hx hb dX6_lays_56 ?_
          refine lv_if_lt (tgt := 85) hx hb dX6_lays_57 (by decide) (fun c_24 => ?_) (fun c_24 => ?_)
          · have hf := if_p hf c_24
            exact j_85 y1 y3 y4 G _ _ ls hf hH (lv_sub hl [1, 2, 3, 4] rfl)
          · have hf := if_n hf c_24
            refine lv_lload hx hb dX6_lays_60 (lv_at hl 0 rfl) ?_
            refine W.ldc2 hx hb hown (hT _ tw_37_6) rfl dX6_lays_62 ?_
            refine W.eq (g2 := F0 m 65 ls [.long (12 : Int64), .long v_23]) rfl ?_
            refine W.lcmp hx hb dX6_lays_65 ?_
            refine lv_if_gt (tgt := 85) hx hb dX6_lays_66 (by decide) (fun c_25 => ?_) (fun c_25 => ?_)
            · have hf := if_p hf c_25
              exact j_85 y1 y3 y4 G _ _ ls hf hH (lv_sub hl [1, 2, 3, 4] rfl)
            · have hf := if_n hf c_25
              refine lv_aload_n hx hb dX6_lays_69 rfl (lv_at hl 1 rfl) ?_
              refine gf_RX6_7 C hE hH 0 rfl rfl dX6_lays_70 ?_
              refine lv_bipush (v := 7) hx hb dX6_lays_73 (by decide) ?_
              refine lv_iload hx hb dX6_lays_75 (lv_at hl 4 rfl) ?_
              refine lv_iadd hx hb dX6_lays_77 ?_
              refine lv_lload hx hb dX6_lays_78 (lv_at hl 0 rfl) ?_
              refine lv_l2i hx hb dX6_lays_80 rfl ?_
              obtain ⟨hi_26, hf⟩ := grd_inv hf
              refine xiast C hE hH 1 rfl hi_26 (fun q : M2 => wM g ad q J) (st2 G 1 (upd (G 1) ((7 : Int32) + y4).toNatClampNeg (v_23.toInt32))) rfl dX6_lays_81 (fun G_27 eG_27 H locs hH => ?_)
              have hf := letb_at hf G_27 eG_27
              obtain ⟨v_28, ev_28⟩ : ∃ z : Int32, z = y3 + (1 : Int32) := ⟨_, rfl⟩
              have hf := letb_at hf v_28 ev_28
              refine lv_iinc (v := v_28) (lv' := [(3, .int v_28), (5, .long v_23), (0, .ref (ad 0)), (1, .int y1), (4, .int y4)]) hx hb dX6_lays_82 hl (k := 3) rfl (by rw [ev_28]; rfl) (by decide) rfl (fun ls hl => ?_)
              exact j_85 y1 v_28 y4 G_27 _ _ ls hf hH (lv_sub hl [2, 3, 0, 4] rfl)
  refine lv_aload_n hx hb dX6_lays_0 rfl (lv_at hl 0 rfl) ?_
  refine lv_iload_n hx hb dX6_lays_1 rfl (lv_at hl 1 rfl) ?_
  obtain ⟨r_29, hc_30, hf⟩ := bind_inv hf
  refine aftPI (runV C hE hA hH [0, 1, 2, 3, 4, 5, 6, 7, 8, 9, 10, 11] nC_M_M_0_11 (sC_M_M_0_11 g ad G J) (kX6_badSheet l g ad _ G J x1 r_29  hc_30) tw_37_7 tw_37_8 tw_37_9 tw_1_5 tw_37_10 hdX6_badSheet 0 rfl rfl rfl rfl ⟨Nat.le_of_ble_eq_true rfl, Nat.le_of_ble_eq_true rfl⟩ rfl hl.1 (rest := []) rfl (Nat.le_of_ble_eq_true rfl) dX6_lays_2 ⟨Nat.zero_le _, Nat.zero_le _⟩) ?_
  refine lv_istore_n (lv' := [(2, .int r_29), (0, .ref (ad 0)), (1, .int x1)]) hx hb dX6_lays_5 rfl hl (by decide) rfl (fun ls hl => ?_)
  refine lv_iload_n hx hb dX6_lays_6 rfl (lv_at hl 0 rfl) ?_
  refine lv_if_eq (tgt := 16) hx hb dX6_lays_7 (by decide) (fun c_31 => ?_) (fun c_31 => ?_)
  · have hf := if_p hf c_31
    refine lv_iconst (v := 0) hx hb dX6_lays_16 (by decide) ?_
    refine lv_istore_n (lv' := [(3, .int (0 : Int32)), (2, .int r_29), (0, .ref (ad 0)), (1, .int x1)]) hx hb dX6_lays_17 rfl hl (by decide) rfl (fun ls hl => ?_)
    refine lv_iconst (v := 0) hx hb dX6_lays_18 (by decide) ?_
    refine lv_istore (lv' := [(4, .int (0 : Int32)), (3, .int (0 : Int32)), (2, .int r_29), (0, .ref (ad 0)), (1, .int x1)]) hx hb dX6_lays_19 hl (by decide) rfl (fun ls hl => ?_)
    exact lp_21 _ x1 (0 : Int32) (0 : Int32) G _ _ ls hf hH (lv_sub hl [3, 4, 1, 0] rfl)
  · have hf := if_n hf c_31
    refine lv_aload_n hx hb dX6_lays_10 rfl (lv_at hl 1 rfl) ?_
    refine lv_iload_n hx hb dX6_lays_11 rfl (lv_at hl 0 rfl) ?_
    obtain ⟨r_32, G_33, hc_34, hf⟩ := bind2_inv hf
    refine aftI (runV C hE hA hH [0, 1, 2, 3, 4, 5, 6, 7, 8, 9, 10, 11] nC_M_M_0_11 (sC_M_M_0_11 g ad G J) (kX6_finds l g ad _ G J r_29 r_32 G_33  hc_34) tw_5_9 tw_5_10 tw_5_11 tw_1_5 tw_5_12 hdX6_finds 0 rfl rfl rfl rfl ⟨Nat.le_of_ble_eq_true rfl, Nat.le_of_ble_eq_true rfl⟩ rfl hl.1 (rest := []) rfl (Nat.le_of_ble_eq_true rfl) dX6_lays_12 ⟨Nat.zero_le _, Nat.zero_le _⟩) hA hH [0, 1, 2, 3, 4, 5, 6, 7, 8, 9, 10, 11] [] (sC_M_M_0_11 g ad G J) (sR_M_M_0_11 g ad G J) nR_M_M_0_11 dj_M_M_0_11 [0, 1, 2, 3, 4, 5, 6, 7, 8, 9, 10, 11] nP_M_M_0_11 (sP_M_M_0_11 g ad G J G_33 J) (fun H locs hH => ?_)
    have hf := Option.some.inj hf
    obtain ⟨h1, h2⟩ := Prod.mk.inj hf
    subst h1
    subst h2
    exact retI C hH rfl dX6_lays_15
def fX6_book_c74  (y1 : Int32) (G : M2) (J : J2) : Option (Int32 × M2 × J2) := (fX6_moveAll_p3 (0 : Int32) G J).bind (fun (G_23 : M2) => grd (inb y1 4) (some (G_23 7 y1.toNatClampNeg, G_23, J)))
def fX6_book_c27  : Nat → Int32 → Int32 → M2 → J2 → Option (Int32 × M2 × J2)
  | 0, _, _, _, _ => none
  | n + 1, y1, y3, G, J => grd (inb y1 4) ((if (G 7 y1.toNatClampNeg) ≤ y3 then fX6_book_c74  y1 G J else grd (inb y1 4) (grd (inb (2 : Int32) 75) ((fX6_narrow (G 6 y1.toNatClampNeg) ((G 1 (2 : Int32).toNatClampNeg).toInt64)).bind (fun (r_30 : Int64) => grd (inb (((40 : Int32) * y1) + y3) 160) (letb (st2 J 1 (vp_updL (J 1) (((40 : Int32) * y1) + y3).toNatClampNeg r_30)) (fun J_33 : J2 => (fX6_oneDay G J_33).bind (fun (G_34 : M2) => letb (y3 + (1 : Int32)) (fun v_36 : Int32 => fX6_book_c27 n y1 v_36 G_34 J_33)))))))))
def fX6_book (x1 : Int32) (G : M2) (J : J2) : Option (Int32 × M2 × J2) := (fX6_badSheet x1 G J).bind (fun (r_37 : Int32) => (if r_37 = 0 then (fX6_moveAll_p3 (1 : Int32) G J).bind (fun (G_40 : M2) => fX6_book_c27  FU x1 (0 : Int32) G_40 J) else bind2 (fX6_finds r_37 G J) (fun (r_42 : Int32) (G_43 : M2) => some (r_42, G_43, J))))
def rmX6_book : Room := { frames := 6, cells := 0, slots := 0, locals := 132 }
theorem hdX6_book : yX6_book.cls = yX6_book.cls ∧ yX6_book.cls ≠ "java/lang/invoke/MethodHandle" ∧ yX6_book.cls ≠ "java/lang/invoke/VarHandle" ∧ (parseMethodDescriptor yX6_book.desc).map (fun d => d.parameters.length) = some 1 := by decide +kernel
set_option maxHeartbeats 4000000 in
set_option maxRecDepth 100000 in
theorem kX6_book (l : Launch) (g : Gl) (ad : Nat → Nat) (sz : Nat) (G : M2) (J : J2) (x1 : Int32) (r : Int32) (G' : M2) (J' : J2)  (hf : fX6_book x1 G J = some (r, G', J')) : MetI l yX6_book (Cond.code yX6_book cX6_book 4 (some .int) :: wsL_law) rmX6_book [.ref (ad 0), .int x1] g (wM g ad G J) sz r (wM g ad G' J') := by
  refine openI (by decide +kernel) (Nat.le_of_ble_eq_true rfl) ?_
  intro p e s m args below meth c A C hE hA hH ls hl
  have hl : lv_has ls 4 [(0, .ref (ad 0)), (1, .int x1)] := hl
  have C : Cx p s m args meth c cX6_book 4 (some .int) RX6 := C
  obtain ⟨hx, hb, hml, hown, hT, hr, hlk⟩ := id C
  rw [fX6_book] at hf
  have lp_27 : ∀ (n_27 : Nat) (y1 : Int32) (y3 : Int32) (G : M2) (J : J2) (H : Heap) (locs : List Loc) (ls : Array Slot), fX6_book_c27  n_27 y1 y3 G J = some (r, G', J') → Hp g A s H locs (wM g ad G J) → lv_has ls 4 [(0, .ref (ad 0)), (1, .int y1), (3, .int y3)] → W p l e rmX6_book s m args below meth c H locs 0 0 (QI g A below args s r (wM g ad G' J')) (F0 m 27 ls []) := by
    intro n_27
    induction n_27 with
    | zero =>
      intro y1 y3 G J H locs  ls hf hH hl
      rw [fX6_book_c27] at hf
      cases hf
    | succ n_27 ih_27 =>
      intro y1 y3 G J H locs  ls hf hH hl
      rw [fX6_book_c27] at hf
      have j_74 : ∀ (y1 : Int32) (G : M2) (J : J2) (H : Heap) (locs : List Loc) (ls : Array Slot), fX6_book_c74  y1 G J = some (r, G', J') → Hp g A s H locs (wM g ad G J) → lv_has ls 4 [(0, .ref (ad 0)), (1, .int y1)] → W p l e rmX6_book s m args below meth c H locs 0 0 (QI g A below args s r (wM g ad G' J')) (F0 m 74 ls []) := by
        intro y1 G J H locs  ls hf hH hl
        rw [fX6_book_c74] at hf
        refine lv_aload_n hx hb dX6_book_74 rfl (lv_at hl 0 rfl) ?_
        refine lv_iconst (v := 0) hx hb dX6_book_75 (by decide) ?_
        refine lv_aload_n hx hb dX6_book_76 rfl (lv_at hl 0 rfl) ?_
        refine gf_RX6_16 C hE hH 0 rfl rfl dX6_book_77 ?_
        obtain ⟨G_23, hc_24, hf⟩ := bind_inv hf
        refine aftV (runV C hE hA hH [0, 1, 2, 3, 4, 5, 6, 7, 8, 9, 10, 11] nC_M_M_0_11 (sC_M_M_0_11 g ad G J) (kX6_moveAll_p3 l g ad _ G J (0 : Int32) G_23  hc_24) tw_19_6 tw_19_7 tw_19_8 tw_1_5 tw_19_9 hdX6_moveAll_p3 0 rfl rfl rfl rfl ⟨Nat.le_of_ble_eq_true rfl, Nat.le_of_ble_eq_true rfl⟩ rfl hl.1 (rest := []) rfl (Nat.le_of_ble_eq_true rfl) dX6_book_80 ⟨Nat.zero_le _, Nat.zero_le _⟩) hA hH [0, 1, 2, 3, 4, 5, 6, 7, 8, 9, 10, 11] [] (sC_M_M_0_11 g ad G J) (sR_M_M_0_11 g ad G J) nR_M_M_0_11 dj_M_M_0_11 [0, 1, 2, 3, 4, 5, 6, 7, 8, 9, 10, 11] nP_M_M_0_11 (sP_M_M_0_11 g ad G J G_23 J) (fun H locs hH => ?_)
        refine lv_aload_n hx hb dX6_book_83 rfl (lv_at hl 0 rfl) ?_
        refine gf_RX6_28 C hE hH 0 rfl rfl dX6_book_84 ?_
        refine lv_iload_n hx hb dX6_book_87 rfl (lv_at hl 1 rfl) ?_
        obtain ⟨hi_25, hf⟩ := grd_inv hf
        refine xiald C hE hH 7 rfl hi_25 dX6_book_88 ?_
        have hf := Option.some.inj hf
        obtain ⟨h1, hf⟩ := Prod.mk.inj hf
        obtain ⟨h2, h3⟩ := Prod.mk.inj hf
        subst h1
        subst h2
        subst h3
        exact retI C hH rfl dX6_book_89
      refine lv_iload_n hx hb dX6_book_27 rfl (lv_at hl 2 rfl) ?_
      refine lv_aload_n hx hb dX6_book_28 rfl (lv_at hl 0 rfl) ?_
      refine gf_RX6_28 C hE hH 0 rfl rfl dX6_book_29 ?_
      refine lv_iload_n hx hb dX6_book_32 rfl (lv_at hl 1 rfl) ?_
      obtain ⟨hi_26, hf⟩ := grd_inv hf
      refine xiald C hE hH 7 rfl hi_26 dX6_book_33 ?_
      refine lv_icmp_ge (tgt := 74) hx hb dX6_book_34 (by decide) (fun c_27 => ?_) (fun c_27 => ?_)
      · have hf := if_p hf c_27
        exact j_74 y1 G J _ _ ls hf hH (lv_sub hl [0, 1] rfl)
      · have hf := if_n hf c_27
        refine lv_aload_n hx hb dX6_book_37 rfl (lv_at hl 0 rfl) ?_
        refine gf_RX6_31 C hE hH 0 rfl rfl dX6_book_38 ?_
        refine lv_bipush (v := 40) hx hb dX6_book_41 (by decide) ?_
        refine lv_iload_n hx hb dX6_book_43 rfl (lv_at hl 1 rfl) ?_
        refine lv_imul hx hb dX6_book_44 ?_
        refine lv_iload_n hx hb dX6_book_45 rfl (lv_at hl 2 rfl) ?_
        refine lv_iadd hx hb dX6_book_46 ?_
        refine lv_aload_n hx hb dX6_book_47 rfl (lv_at hl 0 rfl) ?_
        refine gf_RX6_25 C hE hH 0 rfl rfl dX6_book_48 ?_
        refine lv_iload_n hx hb dX6_book_51 rfl (lv_at hl 1 rfl) ?_
        obtain ⟨hi_28, hf⟩ := grd_inv hf
        refine xiald C hE hH 6 rfl hi_28 dX6_book_52 ?_
        refine lv_aload_n hx hb dX6_book_53 rfl (lv_at hl 0 rfl) ?_
        refine gf_RX6_7 C hE hH 0 rfl rfl dX6_book_54 ?_
        refine lv_iconst (v := 2) hx hb dX6_book_57 (by decide) ?_
        obtain ⟨hi_29, hf⟩ := grd_inv hf
        refine xiald C hE hH 1 rfl hi_29 dX6_book_58 ?_
        refine lv_i2l hx hb dX6_book_59 rfl ?_
        obtain ⟨r_30, hc_31, hf⟩ := bind_inv hf
        refine aftPJ (runS C hE hA hH [] rfl rfl (kX6_narrow l g ad _ (G 6 y1.toNatClampNeg) ((G 1 (2 : Int32).toNatClampNeg).toInt64) r_30  hc_31) tw_36_0 tw_36_1 tw_1_5 tw_36_2 hdX6_narrow rfl rfl ⟨Nat.le_of_ble_eq_true rfl, Nat.le_of_ble_eq_true rfl⟩ rfl hl.1 (rest := [.int (((40 : Int32) * y1) + y3), .ref (ad 10)]) rfl (Nat.le_of_ble_eq_true rfl) dX6_book_60 ⟨Nat.zero_le _, Nat.zero_le _⟩) ?_
        obtain ⟨hi_32, hf⟩ := grd_inv hf
        refine xlast C hE hH 10 rfl hi_32 (fun q : J2 => wM g ad G q) (st2 J 1 (vp_updL (J 1) (((40 : Int32) * y1) + y3).toNatClampNeg r_30)) rfl dX6_book_63 (fun J_33 eJ_33 H locs hH => ?_)
        have hf := letb_at hf J_33 eJ_33
        refine lv_aload_n hx hb dX6_book_64 rfl (lv_at hl 0 rfl) ?_
        obtain ⟨G_34, hc_35, hf⟩ := bind_inv hf
        refine aftV (runV C hE hA hH [0, 1, 2, 3, 4, 5, 6, 7, 8, 9, 10, 11] nC_M_M_0_11 (sC_M_M_0_11 g ad G J_33) (kX6_oneDay l g ad _ G J_33 G_34  hc_35) tw_16_13 tw_16_14 tw_16_15 tw_1_5 tw_16_16 hdX6_oneDay 0 rfl rfl rfl rfl ⟨Nat.le_of_ble_eq_true rfl, Nat.le_of_ble_eq_true rfl⟩ rfl hl.1 (rest := []) rfl (Nat.le_of_ble_eq_true rfl) dX6_book_65 ⟨Nat.zero_le _, Nat.zero_le _⟩) hA hH [0, 1, 2, 3, 4, 5, 6, 7, 8, 9, 10, 11] [] (sC_M_M_0_11 g ad G J_33) (sR_M_M_0_11 g ad G J_33) nR_M_M_0_11 dj_M_M_0_11 [0, 1, 2, 3, 4, 5, 6, 7, 8, 9, 10, 11] nP_M_M_0_11 (sP_M_M_0_11 g ad G J_33 G_34 J_33) (fun H locs hH => ?_)
        obtain ⟨v_36, ev_36⟩ : ∃ z : Int32, z = y3 + (1 : Int32) := ⟨_, rfl⟩
        have hf := letb_at hf v_36 ev_36
        refine lv_iinc (v := v_36) (lv' := [(3, .int v_36), (0, .ref (ad 0)), (1, .int y1)]) hx hb dX6_book_68 hl (k := 2) rfl (by rw [ev_36]; rfl) (by decide) rfl (fun ls hl => ?_)
        refine lv_goto (tgt := 27) hx hb dX6_book_71 (by decide) ?_
        exact ih_27 y1 v_36 G_34 J_33 _ _ ls hf hH (lv_sub hl [1, 2, 0] rfl)
  refine lv_aload_n hx hb dX6_book_0 rfl (lv_at hl 0 rfl) ?_
  refine lv_iload_n hx hb dX6_book_1 rfl (lv_at hl 1 rfl) ?_
  obtain ⟨r_37, hc_38, hf⟩ := bind_inv hf
  refine aftPI (runV C hE hA hH [0, 1, 2, 3, 4, 5, 6, 7, 8, 9, 10, 11] nC_M_M_0_11 (sC_M_M_0_11 g ad G J) (kX6_badSheet l g ad _ G J x1 r_37  hc_38) tw_37_7 tw_37_8 tw_37_9 tw_1_5 tw_37_10 hdX6_badSheet 0 rfl rfl rfl rfl ⟨Nat.le_of_ble_eq_true rfl, Nat.le_of_ble_eq_true rfl⟩ rfl hl.1 (rest := []) rfl (Nat.le_of_ble_eq_true rfl) dX6_book_2 ⟨Nat.zero_le _, Nat.zero_le _⟩) ?_
  refine lv_istore_n (lv' := [(2, .int r_37), (0, .ref (ad 0)), (1, .int x1)]) hx hb dX6_book_5 rfl hl (by decide) rfl (fun ls hl => ?_)
  refine lv_iload_n hx hb dX6_book_6 rfl (lv_at hl 0 rfl) ?_
  refine lv_if_eq (tgt := 16) hx hb dX6_book_7 (by decide) (fun c_39 => ?_) (fun c_39 => ?_)
  · have hf := if_p hf c_39
    refine lv_aload_n hx hb dX6_book_16 rfl (lv_at hl 1 rfl) ?_
    refine lv_iconst (v := 1) hx hb dX6_book_17 (by decide) ?_
    refine lv_aload_n hx hb dX6_book_18 rfl (lv_at hl 1 rfl) ?_
    refine gf_RX6_16 C hE hH 0 rfl rfl dX6_book_19 ?_
    obtain ⟨G_40, hc_41, hf⟩ := bind_inv hf
    refine aftV (runV C hE hA hH [0, 1, 2, 3, 4, 5, 6, 7, 8, 9, 10, 11] nC_M_M_0_11 (sC_M_M_0_11 g ad G J) (kX6_moveAll_p3 l g ad _ G J (1 : Int32) G_40  hc_41) tw_19_6 tw_19_7 tw_19_8 tw_1_5 tw_19_9 hdX6_moveAll_p3 0 rfl rfl rfl rfl ⟨Nat.le_of_ble_eq_true rfl, Nat.le_of_ble_eq_true rfl⟩ rfl hl.1 (rest := []) rfl (Nat.le_of_ble_eq_true rfl) dX6_book_22 ⟨Nat.zero_le _, Nat.zero_le _⟩) hA hH [0, 1, 2, 3, 4, 5, 6, 7, 8, 9, 10, 11] [] (sC_M_M_0_11 g ad G J) (sR_M_M_0_11 g ad G J) nR_M_M_0_11 dj_M_M_0_11 [0, 1, 2, 3, 4, 5, 6, 7, 8, 9, 10, 11] nP_M_M_0_11 (sP_M_M_0_11 g ad G J G_40 J) (fun H locs hH => ?_)
    refine lv_iconst (v := 0) hx hb dX6_book_25 (by decide) ?_
    refine lv_istore_n (lv' := [(3, .int (0 : Int32)), (2, .int r_37), (0, .ref (ad 0)), (1, .int x1)]) hx hb dX6_book_26 rfl hl (by decide) rfl (fun ls hl => ?_)
    exact lp_27 _ x1 (0 : Int32) G_40 J _ _ ls hf hH (lv_sub hl [2, 3, 0] rfl)
  · have hf := if_n hf c_39
    refine lv_aload_n hx hb dX6_book_10 rfl (lv_at hl 1 rfl) ?_
    refine lv_iload_n hx hb dX6_book_11 rfl (lv_at hl 0 rfl) ?_
    obtain ⟨r_42, G_43, hc_44, hf⟩ := bind2_inv hf
    refine aftI (runV C hE hA hH [0, 1, 2, 3, 4, 5, 6, 7, 8, 9, 10, 11] nC_M_M_0_11 (sC_M_M_0_11 g ad G J) (kX6_finds l g ad _ G J r_37 r_42 G_43  hc_44) tw_5_9 tw_5_10 tw_5_11 tw_1_5 tw_5_12 hdX6_finds 0 rfl rfl rfl rfl ⟨Nat.le_of_ble_eq_true rfl, Nat.le_of_ble_eq_true rfl⟩ rfl hl.1 (rest := []) rfl (Nat.le_of_ble_eq_true rfl) dX6_book_12 ⟨Nat.zero_le _, Nat.zero_le _⟩) hA hH [0, 1, 2, 3, 4, 5, 6, 7, 8, 9, 10, 11] [] (sC_M_M_0_11 g ad G J) (sR_M_M_0_11 g ad G J) nR_M_M_0_11 dj_M_M_0_11 [0, 1, 2, 3, 4, 5, 6, 7, 8, 9, 10, 11] nP_M_M_0_11 (sP_M_M_0_11 g ad G J G_43 J) (fun H locs hH => ?_)
    have hf := Option.some.inj hf
    obtain ⟨h1, hf⟩ := Prod.mk.inj hf
    obtain ⟨h2, h3⟩ := Prod.mk.inj hf
    subst h1
    subst h2
    subst h3
    exact retI C hH rfl dX6_book_15
def fX6_isSo_c59  (y3 : Int32) (G : M2) (J : J2) : Option (Int32 × M2) := grd (isB y3) (some (y3, G))
def fX6_isSo_c48 (k_5 : Int32 → Int32 → Int32 → Int32 → M2 → J2 → Option (Int32 × M2)) (y1 : Int32) (y2 : Int32) (y4 : Int32) (z0 : Int32) (G : M2) (J : J2) : Option (Int32 × M2) := (fX6_oneDay G J).bind (fun (G_11 : M2) => letb (y4 + (1 : Int32)) (fun v_13 : Int32 => k_5 y1 y2 z0 v_13 G_11 J))
def fX6_isSo_c5  : Nat → Int32 → Int32 → Int32 → Int32 → M2 → J2 → Option (Int32 × M2)
  | 0, _, _, _, _, _, _ => none
  | n + 1, y1, y2, y3, y4, G, J => grd (inb y1 4) ((if (G 7 y1.toNatClampNeg) ≤ y4 then fX6_isSo_c59  y3 G J else (if y3 = 0 then fX6_isSo_c59  y3 G J else grd (inb (((40 : Int32) * y1) + y4) 160) ((fX6_its y2 (3 : Int32) G J).bind (fun (r_18 : Int32) => (if (lg_cmp (J 1 (((40 : Int32) * y1) + y4).toNatClampNeg) (r_18.toInt64)) = 0 then fX6_isSo_c48 (fX6_isSo_c5 n) y1 y2 y4 (1 : Int32) G J else fX6_isSo_c48 (fX6_isSo_c5 n) y1 y2 y4 (0 : Int32) G J))))))
def fX6_isSo (x1 : Int32) (x2 : Int32) (G : M2) (J : J2) : Option (Int32 × M2) := fX6_isSo_c5  FU x1 x2 (1 : Int32) (0 : Int32) G J
def rmX6_isSo : Room := { frames := 6, cells := 0, slots := 0, locals := 132 }
theorem hdX6_isSo : yX6_isSo.cls = yX6_isSo.cls ∧ yX6_isSo.cls ≠ "java/lang/invoke/MethodHandle" ∧ yX6_isSo.cls ≠ "java/lang/invoke/VarHandle" ∧ (parseMethodDescriptor yX6_isSo.desc).map (fun d => d.parameters.length) = some 2 := by decide +kernel
set_option maxHeartbeats 4000000 in
set_option maxRecDepth 100000 in
theorem kX6_isSo (l : Launch) (g : Gl) (ad : Nat → Nat) (sz : Nat) (G : M2) (J : J2) (x1 : Int32) (x2 : Int32) (r : Int32) (G' : M2)  (hf : fX6_isSo x1 x2 G J = some (r, G')) : MetI l yX6_isSo (Cond.code yX6_isSo cX6_isSo 5 (some .boolean) :: wsL_law) rmX6_isSo [.ref (ad 0), .int x1, .int x2] g (wM g ad G J) sz r (wM g ad G' J) := by
  refine openI (by decide +kernel) (Nat.le_of_ble_eq_true rfl) ?_
  intro p e s m args below meth c A C hE hA hH ls hl
  have hl : lv_has ls 5 [(0, .ref (ad 0)), (1, .int x1), (2, .int x2)] := hl
  have C : Cx p s m args meth c cX6_isSo 5 (some .boolean) RX6 := C
  obtain ⟨hx, hb, hml, hown, hT, hr, hlk⟩ := id C
  rw [fX6_isSo] at hf
  have lp_5 : ∀ (n_5 : Nat) (y1 : Int32) (y2 : Int32) (y3 : Int32) (y4 : Int32) (G : M2) (H : Heap) (locs : List Loc) (ls : Array Slot), fX6_isSo_c5  n_5 y1 y2 y3 y4 G J = some (r, G') → Hp g A s H locs (wM g ad G J) → lv_has ls 5 [(0, .ref (ad 0)), (1, .int y1), (2, .int y2), (3, .int y3), (4, .int y4)] → W p l e rmX6_isSo s m args below meth c H locs 0 0 (QI g A below args s r (wM g ad G' J)) (F0 m 5 ls []) := by
    intro n_5
    induction n_5 with
    | zero =>
      intro y1 y2 y3 y4 G H locs  ls hf hH hl
      rw [fX6_isSo_c5] at hf
      cases hf
    | succ n_5 ih_5 =>
      intro y1 y2 y3 y4 G H locs  ls hf hH hl
      rw [fX6_isSo_c5] at hf
      have j_59 : ∀ (y3 : Int32) (G : M2) (H : Heap) (locs : List Loc) (ls : Array Slot), fX6_isSo_c59  y3 G J = some (r, G') → Hp g A s H locs (wM g ad G J) → lv_has ls 5 [(3, .int y3)] → W p l e rmX6_isSo s m args below meth c H locs 0 0 (QI g A below args s r (wM g ad G' J)) (F0 m 59 ls []) := by
        intro y3 G H locs  ls hf hH hl
        rw [fX6_isSo_c59] at hf
        refine lv_iload_n hx hb dX6_isSo_59 rfl (lv_at hl 0 rfl) ?_
        obtain ⟨hz, hf⟩ := grd_inv hf
        have hf := Option.some.inj hf
        obtain ⟨h1, h2⟩ := Prod.mk.inj hf
        subst h1
        subst h2
        exact retI C hH (isB_nar hz) dX6_isSo_60
      have j_48 : ∀ (y1 : Int32) (y2 : Int32) (y4 : Int32) (z0 : Int32) (G : M2) (H : Heap) (locs : List Loc) (ls : Array Slot), fX6_isSo_c48 (fX6_isSo_c5 n_5) y1 y2 y4 z0 G J = some (r, G') → Hp g A s H locs (wM g ad G J) → lv_has ls 5 [(0, .ref (ad 0)), (1, .int y1), (2, .int y2), (4, .int y4)] → W p l e rmX6_isSo s m args below meth c H locs 0 0 (QI g A below args s r (wM g ad G' J)) (F0 m 48 ls [.int z0]) := by
        intro y1 y2 y4 z0 G H locs  ls hf hH hl
        rw [fX6_isSo_c48] at hf
        refine lv_istore_n (lv' := [(3, .int z0), (0, .ref (ad 0)), (1, .int y1), (2, .int y2), (4, .int y4)]) hx hb dX6_isSo_48 rfl hl (by decide) rfl (fun ls hl => ?_)
        refine lv_aload_n hx hb dX6_isSo_49 rfl (lv_at hl 1 rfl) ?_
        obtain ⟨G_11, hc_12, hf⟩ := bind_inv hf
        refine aftV (runV C hE hA hH [0, 1, 2, 3, 4, 5, 6, 7, 8, 9, 10, 11] nC_M_M_0_11 (sC_M_M_0_11 g ad G J) (kX6_oneDay l g ad _ G J G_11  hc_12) tw_16_13 tw_16_14 tw_16_15 tw_1_5 tw_16_16 hdX6_oneDay 0 rfl rfl rfl rfl ⟨Nat.le_of_ble_eq_true rfl, Nat.le_of_ble_eq_true rfl⟩ rfl hl.1 (rest := []) rfl (Nat.le_of_ble_eq_true rfl) dX6_isSo_50 ⟨Nat.zero_le _, Nat.zero_le _⟩) hA hH [0, 1, 2, 3, 4, 5, 6, 7, 8, 9, 10, 11] [] (sC_M_M_0_11 g ad G J) (sR_M_M_0_11 g ad G J) nR_M_M_0_11 dj_M_M_0_11 [0, 1, 2, 3, 4, 5, 6, 7, 8, 9, 10, 11] nP_M_M_0_11 (sP_M_M_0_11 g ad G J G_11 J) (fun H locs hH => ?_)
        obtain ⟨v_13, ev_13⟩ : ∃ z : Int32, z = y4 + (1 : Int32) := ⟨_, rfl⟩
        have hf := letb_at hf v_13 ev_13
        refine lv_iinc (v := v_13) (lv' := [(4, .int v_13), (3, .int z0), (0, .ref (ad 0)), (1, .int y1), (2, .int y2)]) hx hb dX6_isSo_53 hl (k := 4) rfl (by rw [ev_13]; rfl) (by decide) rfl (fun ls hl => ?_)
        refine lv_goto (tgt := 5) hx hb dX6_isSo_56 (by decide) ?_
        exact ih_5 y1 y2 z0 v_13 G_11 _ _ ls hf hH (lv_sub hl [2, 3, 4, 1, 0] rfl)
      refine lv_iload hx hb dX6_isSo_5 (lv_at hl 4 rfl) ?_
      refine lv_aload_n hx hb dX6_isSo_7 rfl (lv_at hl 0 rfl) ?_
      refine gf_RX6_28 C hE hH 0 rfl rfl dX6_isSo_8 ?_
      refine lv_iload_n hx hb dX6_isSo_11 rfl (lv_at hl 1 rfl) ?_
      obtain ⟨hi_14, hf⟩ := grd_inv hf
      refine xiald C hE hH 7 rfl hi_14 dX6_isSo_12 ?_
      refine lv_icmp_ge (tgt := 59) hx hb dX6_isSo_13 (by decide) (fun c_15 => ?_) (fun c_15 => ?_)
      · have hf := if_p hf c_15
        exact j_59 y3 G _ _ ls hf hH (lv_sub hl [3] rfl)
      · have hf := if_n hf c_15
        refine lv_iload_n hx hb dX6_isSo_16 rfl (lv_at hl 3 rfl) ?_
        refine lv_if_eq (tgt := 59) hx hb dX6_isSo_17 (by decide) (fun c_16 => ?_) (fun c_16 => ?_)
        · have hf := if_p hf c_16
          exact j_59 y3 G _ _ ls hf hH (lv_sub hl [3] rfl)
        · have hf := if_n hf c_16
          refine lv_aload_n hx hb dX6_isSo_20 rfl (lv_at hl 0 rfl) ?_
          refine gf_RX6_31 C hE hH 0 rfl rfl dX6_isSo_21 ?_
          refine lv_bipush (v := 40) hx hb dX6_isSo_24 (by decide) ?_
          refine lv_iload_n hx hb dX6_isSo_26 rfl (lv_at hl 1 rfl) ?_
          refine lv_imul hx hb dX6_isSo_27 ?_
          refine lv_iload hx hb dX6_isSo_28 (lv_at hl 4 rfl) ?_
          refine lv_iadd hx hb dX6_isSo_30 ?_
          obtain ⟨hi_17, hf⟩ := grd_inv hf
          refine xlald C hE hH 10 rfl hi_17 dX6_isSo_31 ?_
          refine lv_aload_n hx hb dX6_isSo_32 rfl (lv_at hl 0 rfl) ?_
          refine lv_iload_n hx hb dX6_isSo_33 rfl (lv_at hl 2 rfl) ?_
          refine lv_iconst (v := 3) hx hb dX6_isSo_34 (by decide) ?_
          obtain ⟨r_18, hc_19, hf⟩ := bind_inv hf
          refine aftPI (runV C hE hA hH [0, 1, 2, 3, 4, 5, 6, 7, 8, 9, 10, 11] nC_M_M_0_11 (sC_M_M_0_11 g ad G J) (kX6_its l g ad _ G J y2 (3 : Int32) r_18  hc_19) tw_10_14 tw_10_15 tw_10_16 tw_1_5 tw_10_17 hdX6_its 0 rfl rfl rfl rfl ⟨Nat.le_of_ble_eq_true rfl, Nat.le_of_ble_eq_true rfl⟩ rfl hl.1 (rest := [.long (J 1 (((40 : Int32) * y1) + y4).toNatClampNeg)]) rfl (Nat.le_of_ble_eq_true rfl) dX6_isSo_35 ⟨Nat.zero_le _, Nat.zero_le _⟩) ?_
          refine lv_i2l hx hb dX6_isSo_38 rfl ?_
          refine W.lcmp hx hb dX6_isSo_39 ?_
          refine lv_if_ne (tgt := 47) hx hb dX6_isSo_40 (by decide) (fun c_20 => ?_) (fun c_20 => ?_)
          · have hf := if_n hf c_20
            refine lv_iconst (v := 0) hx hb dX6_isSo_47 (by decide) ?_
            exact j_48 y1 y2 y4 (0 : Int32) G _ _ ls hf hH (lv_sub hl [0, 1, 2, 4] rfl)
          · have hf := if_p hf c_20
            refine lv_iconst (v := 1) hx hb dX6_isSo_43 (by decide) ?_
            refine lv_goto (tgt := 48) hx hb dX6_isSo_44 (by decide) ?_
            exact j_48 y1 y2 y4 (1 : Int32) G _ _ ls hf hH (lv_sub hl [0, 1, 2, 4] rfl)
  refine lv_iconst (v := 1) hx hb dX6_isSo_0 (by decide) ?_
  refine lv_istore_n (lv' := [(3, .int (1 : Int32)), (0, .ref (ad 0)), (1, .int x1), (2, .int x2)]) hx hb dX6_isSo_1 rfl hl (by decide) rfl (fun ls hl => ?_)
  refine lv_iconst (v := 0) hx hb dX6_isSo_2 (by decide) ?_
  refine lv_istore (lv' := [(4, .int (0 : Int32)), (3, .int (1 : Int32)), (0, .ref (ad 0)), (1, .int x1), (2, .int x2)]) hx hb dX6_isSo_3 hl (by decide) rfl (fun ls hl => ?_)
  exact lp_5 _ x1 x2 (1 : Int32) (0 : Int32) G _ _ ls hf hH (lv_sub hl [2, 3, 4, 1, 0] rfl)
def fX6_read_c130  (y4 : Int32) (G : M2) (J : J2) : Option (Int32 × M2) := some (y4, G)
def fX6_read_c112 (k_64 : Int32 → Int32 → Int32 → Int32 → M2 → J2 → Option (Int32 × M2)) (y1 : Int32) (y2 : Int32) (y5 : Int32) (z0 : Int32) (z1 : Int32) (G : M2) (J : J2) : Option (Int32 × M2) := letb (z1 + z0) (fun v_33 : Int32 => (fX6_moveAll_p4 (0 : Int32) G J).bind (fun (G_34 : M2) => letb (y5 + (1 : Int32)) (fun v_36 : Int32 => k_64 y1 y2 v_33 v_36 G_34 J)))
def fX6_read_c64  : Nat → Int32 → Int32 → Int32 → Int32 → M2 → J2 → Option (Int32 × M2)
  | 0, _, _, _, _, _, _ => none
  | n + 1, y1, y2, y4, y5, G, J => (if (3072 : Int32) ≤ y5 then fX6_read_c130  y4 G J else (fX6_puts y2 (0 : Int32) (y5 / (512 : Int32)) G J).bind (fun (G_38 : M2) => (fX6_puts y2 (3 : Int32) (y5 - y5 / (512 : Int32) * (512 : Int32)) G_38 J).bind (fun (G_40 : M2) => bind2 (fX6_isSo y1 y2 G_40 J) (fun (r_42 : Int32) (G_43 : M2) => (if r_42 = 0 then fX6_read_c112 (fX6_read_c64 n) y1 y2 y5 (0 : Int32) y4 G_43 J else fX6_read_c112 (fX6_read_c64 n) y1 y2 y5 (1 : Int32) y4 G_43 J)))))
def fX6_read (x1 : Int32) (x2 : Int32) (G : M2) (J : J2) : Option (Int32 × M2) := (fX6_badSheet x1 G J).bind (fun (r_46 : Int32) => (if r_46 = 0 then (fX6_isOne x2 G J).bind (fun (r_49 : Int32) => (if r_49 = 0 then bind2 (fX6_finds (-1000000001 : Int32) G J) (fun (r_59 : Int32) (G_60 : M2) => some (r_59, G_60)) else grd (inb x1 4) ((if (G 7 x1.toNatClampNeg) ≤ (8 : Int32) then (fX6_moveAll_p4 (1 : Int32) G J).bind (fun (G_54 : M2) => fX6_read_c64  FU x1 x2 (0 : Int32) (0 : Int32) G_54 J) else bind2 (fX6_finds (-1000000007 : Int32) G J) (fun (r_56 : Int32) (G_57 : M2) => some (r_56, G_57)))))) else bind2 (fX6_finds r_46 G J) (fun (r_62 : Int32) (G_63 : M2) => some (r_62, G_63))))
def rmX6_read : Room := { frames := 7, cells := 0, slots := 0, locals := 156 }
theorem hdX6_read : yX6_read.cls = yX6_read.cls ∧ yX6_read.cls ≠ "java/lang/invoke/MethodHandle" ∧ yX6_read.cls ≠ "java/lang/invoke/VarHandle" ∧ (parseMethodDescriptor yX6_read.desc).map (fun d => d.parameters.length) = some 2 := by decide +kernel
set_option maxHeartbeats 4000000 in
set_option maxRecDepth 100000 in
theorem kX6_read (l : Launch) (g : Gl) (ad : Nat → Nat) (sz : Nat) (G : M2) (J : J2) (x1 : Int32) (x2 : Int32) (r : Int32) (G' : M2)  (hf : fX6_read x1 x2 G J = some (r, G')) : MetI l yX6_read (Cond.code yX6_read cX6_read 6 (some .int) :: wsL_law) rmX6_read [.ref (ad 0), .int x1, .int x2] g (wM g ad G J) sz r (wM g ad G' J) := by
  refine openI (by decide +kernel) (Nat.le_of_ble_eq_true rfl) ?_
  intro p e s m args below meth c A C hE hA hH ls hl
  have hl : lv_has ls 6 [(0, .ref (ad 0)), (1, .int x1), (2, .int x2)] := hl
  have C : Cx p s m args meth c cX6_read 6 (some .int) RX6 := C
  obtain ⟨hx, hb, hml, hown, hT, hr, hlk⟩ := id C
  rw [fX6_read] at hf
  have lp_64 : ∀ (n_64 : Nat) (y1 : Int32) (y2 : Int32) (y4 : Int32) (y5 : Int32) (G : M2) (H : Heap) (locs : List Loc) (ls : Array Slot), fX6_read_c64  n_64 y1 y2 y4 y5 G J = some (r, G') → Hp g A s H locs (wM g ad G J) → lv_has ls 6 [(0, .ref (ad 0)), (1, .int y1), (2, .int y2), (4, .int y4), (5, .int y5)] → W p l e rmX6_read s m args below meth c H locs 0 0 (QI g A below args s r (wM g ad G' J)) (F0 m 64 ls []) := by
    intro n_64
    induction n_64 with
    | zero =>
      intro y1 y2 y4 y5 G H locs  ls hf hH hl
      rw [fX6_read_c64] at hf
      cases hf
    | succ n_64 ih_64 =>
      intro y1 y2 y4 y5 G H locs  ls hf hH hl
      rw [fX6_read_c64] at hf
      have j_130 : ∀ (y4 : Int32) (G : M2) (H : Heap) (locs : List Loc) (ls : Array Slot), fX6_read_c130  y4 G J = some (r, G') → Hp g A s H locs (wM g ad G J) → lv_has ls 6 [(4, .int y4)] → W p l e rmX6_read s m args below meth c H locs 0 0 (QI g A below args s r (wM g ad G' J)) (F0 m 130 ls []) := by
        intro y4 G H locs  ls hf hH hl
        rw [fX6_read_c130] at hf
        refine lv_iload hx hb dX6_read_130 (lv_at hl 0 rfl) ?_
        have hf := Option.some.inj hf
        obtain ⟨h1, h2⟩ := Prod.mk.inj hf
        subst h1
        subst h2
        exact retI C hH rfl dX6_read_132
      have j_112 : ∀ (y1 : Int32) (y2 : Int32) (y5 : Int32) (z0 : Int32) (z1 : Int32) (G : M2) (H : Heap) (locs : List Loc) (ls : Array Slot), fX6_read_c112 (fX6_read_c64 n_64) y1 y2 y5 z0 z1 G J = some (r, G') → Hp g A s H locs (wM g ad G J) → lv_has ls 6 [(0, .ref (ad 0)), (1, .int y1), (2, .int y2), (5, .int y5)] → W p l e rmX6_read s m args below meth c H locs 0 0 (QI g A below args s r (wM g ad G' J)) (F0 m 112 ls [.int z0, .int z1]) := by
        intro y1 y2 y5 z0 z1 G H locs  ls hf hH hl
        rw [fX6_read_c112] at hf
        refine lv_iadd hx hb dX6_read_112 ?_
        refine lv_topi (fun v_33 ev_33 => ?_)
        have hf := letb_at hf v_33 ev_33
        refine lv_istore (lv' := [(4, .int v_33), (0, .ref (ad 0)), (1, .int y1), (2, .int y2), (5, .int y5)]) hx hb dX6_read_113 hl (by decide) rfl (fun ls hl => ?_)
        refine lv_aload_n hx hb dX6_read_115 rfl (lv_at hl 1 rfl) ?_
        refine lv_iconst (v := 0) hx hb dX6_read_116 (by decide) ?_
        refine lv_aload_n hx hb dX6_read_117 rfl (lv_at hl 1 rfl) ?_
        refine gf_RX6_19 C hE hH 0 rfl rfl dX6_read_118 ?_
        obtain ⟨G_34, hc_35, hf⟩ := bind_inv hf
        refine aftV (runV C hE hA hH [0, 1, 2, 3, 4, 5, 6, 7, 8, 9, 10, 11] nC_M_M_0_11 (sC_M_M_0_11 g ad G J) (kX6_moveAll_p4 l g ad _ G J (0 : Int32) G_34  hc_35) tw_19_6 tw_19_7 tw_19_8 tw_1_5 tw_19_9 hdX6_moveAll_p4 0 rfl rfl rfl rfl ⟨Nat.le_of_ble_eq_true rfl, Nat.le_of_ble_eq_true rfl⟩ rfl hl.1 (rest := []) rfl (Nat.le_of_ble_eq_true rfl) dX6_read_121 ⟨Nat.zero_le _, Nat.zero_le _⟩) hA hH [0, 1, 2, 3, 4, 5, 6, 7, 8, 9, 10, 11] [] (sC_M_M_0_11 g ad G J) (sR_M_M_0_11 g ad G J) nR_M_M_0_11 dj_M_M_0_11 [0, 1, 2, 3, 4, 5, 6, 7, 8, 9, 10, 11] nP_M_M_0_11 (sP_M_M_0_11 g ad G J G_34 J) (fun H locs hH => ?_)
        obtain ⟨v_36, ev_36⟩ : ∃ z : Int32, z = y5 + (1 : Int32) := ⟨_, rfl⟩
        have hf := letb_at hf v_36 ev_36
        refine lv_iinc (v := v_36) (lv' := [(5, .int v_36), (4, .int v_33), (0, .ref (ad 0)), (1, .int y1), (2, .int y2)]) hx hb dX6_read_124 hl (k := 4) rfl (by rw [ev_36]; rfl) (by decide) rfl (fun ls hl => ?_)
        refine lv_goto (tgt := 64) hx hb dX6_read_127 (by decide) ?_
        exact ih_64 y1 y2 v_33 v_36 G_34 _ _ ls hf hH (lv_sub hl [2, 3, 4, 1, 0] rfl)
      refine lv_iload hx hb dX6_read_64 (lv_at hl 4 rfl) ?_
      refine lv_sipush (v := 3072) hx hb dX6_read_66 (by decide) ?_
      refine lv_icmp_ge (tgt := 130) hx hb dX6_read_69 (by decide) (fun c_37 => ?_) (fun c_37 => ?_)
      · have hf := if_p hf c_37
        exact j_130 y4 G _ _ ls hf hH (lv_sub hl [3] rfl)
      · have hf := if_n hf c_37
        refine lv_aload_n hx hb dX6_read_72 rfl (lv_at hl 0 rfl) ?_
        refine lv_iload_n hx hb dX6_read_73 rfl (lv_at hl 2 rfl) ?_
        refine lv_iconst (v := 0) hx hb dX6_read_74 (by decide) ?_
        refine lv_iload hx hb dX6_read_75 (lv_at hl 4 rfl) ?_
        refine lv_sipush (v := 512) hx hb dX6_read_77 (by decide) ?_
        refine lv_idiv hx hb dX6_read_80 (by decide) ?_
        obtain ⟨G_38, hc_39, hf⟩ := bind_inv hf
        refine aftV (runV C hE hA hH [0, 1, 2, 3, 4, 5, 6, 7, 8, 9, 10, 11] nC_M_M_0_11 (sC_M_M_0_11 g ad G J) (kX6_puts l g ad _ G J y2 (0 : Int32) (y5 / (512 : Int32)) G_38  hc_39) tw_8_17 tw_8_18 tw_8_19 tw_1_5 tw_8_20 hdX6_puts 0 rfl rfl rfl rfl ⟨Nat.le_of_ble_eq_true rfl, Nat.le_of_ble_eq_true rfl⟩ rfl hl.1 (rest := []) rfl (Nat.le_of_ble_eq_true rfl) dX6_read_81 ⟨Nat.zero_le _, Nat.zero_le _⟩) hA hH [0, 1, 2, 3, 4, 5, 6, 7, 8, 9, 10, 11] [] (sC_M_M_0_11 g ad G J) (sR_M_M_0_11 g ad G J) nR_M_M_0_11 dj_M_M_0_11 [0, 1, 2, 3, 4, 5, 6, 7, 8, 9, 10, 11] nP_M_M_0_11 (sP_M_M_0_11 g ad G J G_38 J) (fun H locs hH => ?_)
        refine lv_aload_n hx hb dX6_read_84 rfl (lv_at hl 0 rfl) ?_
        refine lv_iload_n hx hb dX6_read_85 rfl (lv_at hl 2 rfl) ?_
        refine lv_iconst (v := 3) hx hb dX6_read_86 (by decide) ?_
        refine lv_iload hx hb dX6_read_87 (lv_at hl 4 rfl) ?_
        refine lv_sipush (v := 512) hx hb dX6_read_89 (by decide) ?_
        refine lv_irem hx hb dX6_read_92 (by decide) ?_
        obtain ⟨G_40, hc_41, hf⟩ := bind_inv hf
        refine aftV (runV C hE hA hH [0, 1, 2, 3, 4, 5, 6, 7, 8, 9, 10, 11] nC_M_M_0_11 (sC_M_M_0_11 g ad G_38 J) (kX6_puts l g ad _ G_38 J y2 (3 : Int32) (y5 - y5 / (512 : Int32) * (512 : Int32)) G_40  hc_41) tw_8_17 tw_8_18 tw_8_19 tw_1_5 tw_8_20 hdX6_puts 0 rfl rfl rfl rfl ⟨Nat.le_of_ble_eq_true rfl, Nat.le_of_ble_eq_true rfl⟩ rfl hl.1 (rest := []) rfl (Nat.le_of_ble_eq_true rfl) dX6_read_93 ⟨Nat.zero_le _, Nat.zero_le _⟩) hA hH [0, 1, 2, 3, 4, 5, 6, 7, 8, 9, 10, 11] [] (sC_M_M_0_11 g ad G_38 J) (sR_M_M_0_11 g ad G_38 J) nR_M_M_0_11 dj_M_M_0_11 [0, 1, 2, 3, 4, 5, 6, 7, 8, 9, 10, 11] nP_M_M_0_11 (sP_M_M_0_11 g ad G_38 J G_40 J) (fun H locs hH => ?_)
        refine lv_iload hx hb dX6_read_96 (lv_at hl 3 rfl) ?_
        refine lv_aload_n hx hb dX6_read_98 rfl (lv_at hl 0 rfl) ?_
        refine lv_iload_n hx hb dX6_read_99 rfl (lv_at hl 1 rfl) ?_
        refine lv_iload_n hx hb dX6_read_100 rfl (lv_at hl 2 rfl) ?_
        obtain ⟨r_42, G_43, hc_44, hf⟩ := bind2_inv hf
        refine aftI (runV C hE hA hH [0, 1, 2, 3, 4, 5, 6, 7, 8, 9, 10, 11] nC_M_M_0_11 (sC_M_M_0_11 g ad G_40 J) (kX6_isSo l g ad _ G_40 J y1 y2 r_42 G_43  hc_44) tw_38_12 tw_38_13 tw_38_14 tw_1_5 tw_38_15 hdX6_isSo 0 rfl rfl rfl rfl ⟨Nat.le_of_ble_eq_true rfl, Nat.le_of_ble_eq_true rfl⟩ rfl hl.1 (rest := [.int y4]) rfl (Nat.le_of_ble_eq_true rfl) dX6_read_101 ⟨Nat.zero_le _, Nat.zero_le _⟩) hA hH [0, 1, 2, 3, 4, 5, 6, 7, 8, 9, 10, 11] [] (sC_M_M_0_11 g ad G_40 J) (sR_M_M_0_11 g ad G_40 J) nR_M_M_0_11 dj_M_M_0_11 [0, 1, 2, 3, 4, 5, 6, 7, 8, 9, 10, 11] nP_M_M_0_11 (sP_M_M_0_11 g ad G_40 J G_43 J) (fun H locs hH => ?_)
        refine lv_if_eq (tgt := 111) hx hb dX6_read_104 (by decide) (fun c_45 => ?_) (fun c_45 => ?_)
        · have hf := if_p hf c_45
          refine lv_iconst (v := 0) hx hb dX6_read_111 (by decide) ?_
          exact j_112 y1 y2 y5 (0 : Int32) y4 G_43 _ _ ls hf hH (lv_sub hl [0, 1, 2, 4] rfl)
        · have hf := if_n hf c_45
          refine lv_iconst (v := 1) hx hb dX6_read_107 (by decide) ?_
          refine lv_goto (tgt := 112) hx hb dX6_read_108 (by decide) ?_
          exact j_112 y1 y2 y5 (1 : Int32) y4 G_43 _ _ ls hf hH (lv_sub hl [0, 1, 2, 4] rfl)
  refine lv_aload_n hx hb dX6_read_0 rfl (lv_at hl 0 rfl) ?_
  refine lv_iload_n hx hb dX6_read_1 rfl (lv_at hl 1 rfl) ?_
  obtain ⟨r_46, hc_47, hf⟩ := bind_inv hf
  refine aftPI (runV C hE hA hH [0, 1, 2, 3, 4, 5, 6, 7, 8, 9, 10, 11] nC_M_M_0_11 (sC_M_M_0_11 g ad G J) (kX6_badSheet l g ad _ G J x1 r_46  hc_47) tw_37_7 tw_37_8 tw_37_9 tw_1_5 tw_37_10 hdX6_badSheet 0 rfl rfl rfl rfl ⟨Nat.le_of_ble_eq_true rfl, Nat.le_of_ble_eq_true rfl⟩ rfl hl.1 (rest := []) rfl (Nat.le_of_ble_eq_true rfl) dX6_read_2 ⟨Nat.zero_le _, Nat.zero_le _⟩) ?_
  refine lv_istore_n (lv' := [(3, .int r_46), (0, .ref (ad 0)), (1, .int x1), (2, .int x2)]) hx hb dX6_read_5 rfl hl (by decide) rfl (fun ls hl => ?_)
  refine lv_iload_n hx hb dX6_read_6 rfl (lv_at hl 0 rfl) ?_
  refine lv_if_eq (tgt := 16) hx hb dX6_read_7 (by decide) (fun c_48 => ?_) (fun c_48 => ?_)
  · have hf := if_p hf c_48
    refine lv_aload_n hx hb dX6_read_16 rfl (lv_at hl 1 rfl) ?_
    refine lv_iload_n hx hb dX6_read_17 rfl (lv_at hl 3 rfl) ?_
    obtain ⟨r_49, hc_50, hf⟩ := bind_inv hf
    refine aftPI (runV C hE hA hH [0, 1, 2, 3, 4, 5, 6, 7, 8, 9, 10, 11] nC_M_M_0_11 (sC_M_M_0_11 g ad G J) (kX6_isOne l g ad _ G J x2 r_49  hc_50) tw_10_6 tw_10_7 tw_10_8 tw_1_5 tw_10_9 hdX6_isOne 0 rfl rfl rfl rfl ⟨Nat.le_of_ble_eq_true rfl, Nat.le_of_ble_eq_true rfl⟩ rfl hl.1 (rest := []) rfl (Nat.le_of_ble_eq_true rfl) dX6_read_18 ⟨Nat.zero_le _, Nat.zero_le _⟩) ?_
    refine lv_if_ne (tgt := 31) hx hb dX6_read_21 (by decide) (fun c_51 => ?_) (fun c_51 => ?_)
    · have hf := if_n hf c_51
      refine lv_aload_n hx hb dX6_read_31 rfl (lv_at hl 1 rfl) ?_
      refine gf_RX6_28 C hE hH 0 rfl rfl dX6_read_32 ?_
      refine lv_iload_n hx hb dX6_read_35 rfl (lv_at hl 2 rfl) ?_
      obtain ⟨hi_52, hf⟩ := grd_inv hf
      refine xiald C hE hH 7 rfl hi_52 dX6_read_36 ?_
      refine lv_bipush (v := 8) hx hb dX6_read_37 (by decide) ?_
      refine lv_icmp_le (tgt := 49) hx hb dX6_read_39 (by decide) (fun c_53 => ?_) (fun c_53 => ?_)
      · have hf := if_p hf c_53
        refine lv_iconst (v := 0) hx hb dX6_read_49 (by decide) ?_
        refine lv_istore (lv' := [(4, .int (0 : Int32)), (3, .int r_46), (0, .ref (ad 0)), (1, .int x1), (2, .int x2)]) hx hb dX6_read_50 hl (by decide) rfl (fun ls hl => ?_)
        refine lv_aload_n hx hb dX6_read_52 rfl (lv_at hl 2 rfl) ?_
        refine lv_iconst (v := 1) hx hb dX6_read_53 (by decide) ?_
        refine lv_aload_n hx hb dX6_read_54 rfl (lv_at hl 2 rfl) ?_
        refine gf_RX6_19 C hE hH 0 rfl rfl dX6_read_55 ?_
        obtain ⟨G_54, hc_55, hf⟩ := bind_inv hf
        refine aftV (runV C hE hA hH [0, 1, 2, 3, 4, 5, 6, 7, 8, 9, 10, 11] nC_M_M_0_11 (sC_M_M_0_11 g ad G J) (kX6_moveAll_p4 l g ad _ G J (1 : Int32) G_54  hc_55) tw_19_6 tw_19_7 tw_19_8 tw_1_5 tw_19_9 hdX6_moveAll_p4 0 rfl rfl rfl rfl ⟨Nat.le_of_ble_eq_true rfl, Nat.le_of_ble_eq_true rfl⟩ rfl hl.1 (rest := []) rfl (Nat.le_of_ble_eq_true rfl) dX6_read_58 ⟨Nat.zero_le _, Nat.zero_le _⟩) hA hH [0, 1, 2, 3, 4, 5, 6, 7, 8, 9, 10, 11] [] (sC_M_M_0_11 g ad G J) (sR_M_M_0_11 g ad G J) nR_M_M_0_11 dj_M_M_0_11 [0, 1, 2, 3, 4, 5, 6, 7, 8, 9, 10, 11] nP_M_M_0_11 (sP_M_M_0_11 g ad G J G_54 J) (fun H locs hH => ?_)
        refine lv_iconst (v := 0) hx hb dX6_read_61 (by decide) ?_
        refine lv_istore (lv' := [(5, .int (0 : Int32)), (4, .int (0 : Int32)), (3, .int r_46), (0, .ref (ad 0)), (1, .int x1), (2, .int x2)]) hx hb dX6_read_62 hl (by decide) rfl (fun ls hl => ?_)
        exact lp_64 _ x1 x2 (0 : Int32) (0 : Int32) G_54 _ _ ls hf hH (lv_sub hl [3, 4, 5, 1, 0] rfl)
      · have hf := if_n hf c_53
        refine lv_aload_n hx hb dX6_read_42 rfl (lv_at hl 1 rfl) ?_
        refine lv_ldc hx hb hown (hT _ tw_35_1) dX6_read_43 ?_
        obtain ⟨r_56, G_57, hc_58, hf⟩ := bind2_inv hf
        refine aftI (runV C hE hA hH [0, 1, 2, 3, 4, 5, 6, 7, 8, 9, 10, 11] nC_M_M_0_11 (sC_M_M_0_11 g ad G J) (kX6_finds l g ad _ G J (-1000000007 : Int32) r_56 G_57  hc_58) tw_5_9 tw_5_10 tw_5_11 tw_1_5 tw_5_12 hdX6_finds 0 rfl rfl rfl rfl ⟨Nat.le_of_ble_eq_true rfl, Nat.le_of_ble_eq_true rfl⟩ rfl hl.1 (rest := []) rfl (Nat.le_of_ble_eq_true rfl) dX6_read_45 ⟨Nat.zero_le _, Nat.zero_le _⟩) hA hH [0, 1, 2, 3, 4, 5, 6, 7, 8, 9, 10, 11] [] (sC_M_M_0_11 g ad G J) (sR_M_M_0_11 g ad G J) nR_M_M_0_11 dj_M_M_0_11 [0, 1, 2, 3, 4, 5, 6, 7, 8, 9, 10, 11] nP_M_M_0_11 (sP_M_M_0_11 g ad G J G_57 J) (fun H locs hH => ?_)
        have hf := Option.some.inj hf
        obtain ⟨h1, h2⟩ := Prod.mk.inj hf
        subst h1
        subst h2
        exact retI C hH rfl dX6_read_48
    · have hf := if_p hf c_51
      refine lv_aload_n hx hb dX6_read_24 rfl (lv_at hl 1 rfl) ?_
      refine lv_ldc hx hb hown (hT _ tw_5_1) dX6_read_25 ?_
      obtain ⟨r_59, G_60, hc_61, hf⟩ := bind2_inv hf
      refine aftI (runV C hE hA hH [0, 1, 2, 3, 4, 5, 6, 7, 8, 9, 10, 11] nC_M_M_0_11 (sC_M_M_0_11 g ad G J) (kX6_finds l g ad _ G J (-1000000001 : Int32) r_59 G_60  hc_61) tw_5_9 tw_5_10 tw_5_11 tw_1_5 tw_5_12 hdX6_finds 0 rfl rfl rfl rfl ⟨Nat.le_of_ble_eq_true rfl, Nat.le_of_ble_eq_true rfl⟩ rfl hl.1 (rest := []) rfl (Nat.le_of_ble_eq_true rfl) dX6_read_27 ⟨Nat.zero_le _, Nat.zero_le _⟩) hA hH [0, 1, 2, 3, 4, 5, 6, 7, 8, 9, 10, 11] [] (sC_M_M_0_11 g ad G J) (sR_M_M_0_11 g ad G J) nR_M_M_0_11 dj_M_M_0_11 [0, 1, 2, 3, 4, 5, 6, 7, 8, 9, 10, 11] nP_M_M_0_11 (sP_M_M_0_11 g ad G J G_60 J) (fun H locs hH => ?_)
      have hf := Option.some.inj hf
      obtain ⟨h1, h2⟩ := Prod.mk.inj hf
      subst h1
      subst h2
      exact retI C hH rfl dX6_read_30
  · have hf := if_n hf c_48
    refine lv_aload_n hx hb dX6_read_10 rfl (lv_at hl 1 rfl) ?_
    refine lv_iload_n hx hb dX6_read_11 rfl (lv_at hl 0 rfl) ?_
    obtain ⟨r_62, G_63, hc_64, hf⟩ := bind2_inv hf
    refine aftI (runV C hE hA hH [0, 1, 2, 3, 4, 5, 6, 7, 8, 9, 10, 11] nC_M_M_0_11 (sC_M_M_0_11 g ad G J) (kX6_finds l g ad _ G J r_46 r_62 G_63  hc_64) tw_5_9 tw_5_10 tw_5_11 tw_1_5 tw_5_12 hdX6_finds 0 rfl rfl rfl rfl ⟨Nat.le_of_ble_eq_true rfl, Nat.le_of_ble_eq_true rfl⟩ rfl hl.1 (rest := []) rfl (Nat.le_of_ble_eq_true rfl) dX6_read_12 ⟨Nat.zero_le _, Nat.zero_le _⟩) hA hH [0, 1, 2, 3, 4, 5, 6, 7, 8, 9, 10, 11] [] (sC_M_M_0_11 g ad G J) (sR_M_M_0_11 g ad G J) nR_M_M_0_11 dj_M_M_0_11 [0, 1, 2, 3, 4, 5, 6, 7, 8, 9, 10, 11] nP_M_M_0_11 (sP_M_M_0_11 g ad G J G_63 J) (fun H locs hH => ?_)
    have hf := Option.some.inj hf
    obtain ⟨h1, h2⟩ := Prod.mk.inj hf
    subst h1
    subst h2
    exact retI C hH rfl dX6_read_15
def fX6_image (G : M2) (J : J2) : Option (Int32 × M2) := (fX6_moveAll_p8 (1 : Int32) G J).bind (fun (G_4 : M2) => letb (st2 G_4 0 (upd (G_4 0) 8 (1 : Int32))) (fun G_6 : M2 => some ((1 : Int32), G_6)))
def rmX6_image : Room := { frames := 1, cells := 0, slots := 0, locals := 23 }
theorem hdX6_image : yX6_image.cls = yX6_image.cls ∧ yX6_image.cls ≠ "java/lang/invoke/MethodHandle" ∧ yX6_image.cls ≠ "java/lang/invoke/VarHandle" ∧ (parseMethodDescriptor yX6_image.desc).map (fun d => d.parameters.length) = some 0 := by decide +kernel
set_option maxHeartbeats 4000000 in
set_option maxRecDepth 100000 in
theorem kX6_image (l : Launch) (g : Gl) (ad : Nat → Nat) (sz : Nat) (G : M2) (J : J2)  (r : Int32) (G' : M2)  (hf : fX6_image G J = some (r, G')) : MetI l yX6_image (Cond.code yX6_image cX6_image 1 (some .int) :: wsL_law) rmX6_image [.ref (ad 0)] g (wM g ad G J) sz r (wM g ad G' J) := by
  refine openI (by decide +kernel) (Nat.le_of_ble_eq_true rfl) ?_
  intro p e s m args below meth c A C hE hA hH ls hl
  have hl : lv_has ls 1 [(0, .ref (ad 0))] := hl
  have C : Cx p s m args meth c cX6_image 1 (some .int) RX6 := C
  obtain ⟨hx, hb, hml, hown, hT, hr, hlk⟩ := id C
  rw [fX6_image] at hf
  refine lv_aload_n hx hb dX6_image_0 rfl (lv_at hl 0 rfl) ?_
  refine lv_iconst (v := 1) hx hb dX6_image_1 (by decide) ?_
  refine lv_aload_n hx hb dX6_image_2 rfl (lv_at hl 0 rfl) ?_
  refine gf_RX6_38 C hE hH 0 rfl rfl dX6_image_3 ?_
  obtain ⟨G_4, hc_5, hf⟩ := bind_inv hf
  refine aftV (runV C hE hA hH [0, 1, 2, 3, 4, 5, 6, 7, 8, 9, 10, 11] nC_M_M_0_11 (sC_M_M_0_11 g ad G J) (kX6_moveAll_p8 l g ad _ G J (1 : Int32) G_4  hc_5) tw_19_6 tw_19_7 tw_19_8 tw_1_5 tw_19_9 hdX6_moveAll_p8 0 rfl rfl rfl rfl ⟨Nat.le_of_ble_eq_true rfl, Nat.le_of_ble_eq_true rfl⟩ rfl hl.1 (rest := []) rfl (Nat.le_of_ble_eq_true rfl) dX6_image_6 ⟨Nat.zero_le _, Nat.zero_le _⟩) hA hH [0, 1, 2, 3, 4, 5, 6, 7, 8, 9, 10, 11] [] (sC_M_M_0_11 g ad G J) (sR_M_M_0_11 g ad G J) nR_M_M_0_11 dj_M_M_0_11 [0, 1, 2, 3, 4, 5, 6, 7, 8, 9, 10, 11] nP_M_M_0_11 (sP_M_M_0_11 g ad G J G_4 J) (fun H locs hH => ?_)
  refine lv_aload_n hx hb dX6_image_9 rfl (lv_at hl 0 rfl) ?_
  refine lv_iconst (v := 1) hx hb dX6_image_10 (by decide) ?_
  refine pf_RX6_254 C hE hH 0 rfl (by decide) (by decide) (Nat.le_of_ble_eq_true rfl) (fun q : M2 => wM g ad q J) (st2 G_4 0 (upd (G_4 0) 8 (1 : Int32))) rfl dX6_image_11 (fun G_6 eG_6 H locs hH => ?_)
  have hf := letb_at hf G_6 eG_6
  refine lv_iconst (v := 1) hx hb dX6_image_14 (by decide) ?_
  have hf := Option.some.inj hf
  obtain ⟨h1, h2⟩ := Prod.mk.inj hf
  subst h1
  subst h2
  exact retI C hH rfl dX6_image_15
def fX6_undo (G : M2) (J : J2) : Option (Int32 × M2) := (if (G 0 8) = 0 then bind2 (fX6_finds (-1000000004 : Int32) G J) (fun (r_12 : Int32) (G_13 : M2) => some (r_12, G_13)) else (fX6_moveAll_p8 (0 : Int32) G J).bind (fun (G_9 : M2) => grd (inb (6 : Int32) 75) (some (G_9 1 (6 : Int32).toNatClampNeg, G_9))))
def rmX6_undo : Room := { frames := 1, cells := 0, slots := 0, locals := 23 }
theorem hdX6_undo : yX6_undo.cls = yX6_undo.cls ∧ yX6_undo.cls ≠ "java/lang/invoke/MethodHandle" ∧ yX6_undo.cls ≠ "java/lang/invoke/VarHandle" ∧ (parseMethodDescriptor yX6_undo.desc).map (fun d => d.parameters.length) = some 0 := by decide +kernel
set_option maxHeartbeats 4000000 in
set_option maxRecDepth 100000 in
theorem kX6_undo (l : Launch) (g : Gl) (ad : Nat → Nat) (sz : Nat) (G : M2) (J : J2)  (r : Int32) (G' : M2)  (hf : fX6_undo G J = some (r, G')) : MetI l yX6_undo (Cond.code yX6_undo cX6_undo 1 (some .int) :: wsL_law) rmX6_undo [.ref (ad 0)] g (wM g ad G J) sz r (wM g ad G' J) := by
  refine openI (by decide +kernel) (Nat.le_of_ble_eq_true rfl) ?_
  intro p e s m args below meth c A C hE hA hH ls hl
  have hl : lv_has ls 1 [(0, .ref (ad 0))] := hl
  have C : Cx p s m args meth c cX6_undo 1 (some .int) RX6 := C
  obtain ⟨hx, hb, hml, hown, hT, hr, hlk⟩ := id C
  rw [fX6_undo] at hf
  refine lv_aload_n hx hb dX6_undo_0 rfl (lv_at hl 0 rfl) ?_
  refine gf_RX6_254 C hE hH 0 rfl rfl dX6_undo_1 ?_
  refine lv_if_ne (tgt := 14) hx hb dX6_undo_4 (by decide) (fun c_8 => ?_) (fun c_8 => ?_)
  · have hf := if_n hf c_8
    refine lv_aload_n hx hb dX6_undo_14 rfl (lv_at hl 0 rfl) ?_
    refine lv_iconst (v := 0) hx hb dX6_undo_15 (by decide) ?_
    refine lv_aload_n hx hb dX6_undo_16 rfl (lv_at hl 0 rfl) ?_
    refine gf_RX6_38 C hE hH 0 rfl rfl dX6_undo_17 ?_
    obtain ⟨G_9, hc_10, hf⟩ := bind_inv hf
    refine aftV (runV C hE hA hH [0, 1, 2, 3, 4, 5, 6, 7, 8, 9, 10, 11] nC_M_M_0_11 (sC_M_M_0_11 g ad G J) (kX6_moveAll_p8 l g ad _ G J (0 : Int32) G_9  hc_10) tw_19_6 tw_19_7 tw_19_8 tw_1_5 tw_19_9 hdX6_moveAll_p8 0 rfl rfl rfl rfl ⟨Nat.le_of_ble_eq_true rfl, Nat.le_of_ble_eq_true rfl⟩ rfl hl.1 (rest := []) rfl (Nat.le_of_ble_eq_true rfl) dX6_undo_20 ⟨Nat.zero_le _, Nat.zero_le _⟩) hA hH [0, 1, 2, 3, 4, 5, 6, 7, 8, 9, 10, 11] [] (sC_M_M_0_11 g ad G J) (sR_M_M_0_11 g ad G J) nR_M_M_0_11 dj_M_M_0_11 [0, 1, 2, 3, 4, 5, 6, 7, 8, 9, 10, 11] nP_M_M_0_11 (sP_M_M_0_11 g ad G J G_9 J) (fun H locs hH => ?_)
    refine lv_aload_n hx hb dX6_undo_23 rfl (lv_at hl 0 rfl) ?_
    refine gf_RX6_7 C hE hH 0 rfl rfl dX6_undo_24 ?_
    refine lv_bipush (v := 6) hx hb dX6_undo_27 (by decide) ?_
    obtain ⟨hi_11, hf⟩ := grd_inv hf
    refine xiald C hE hH 1 rfl hi_11 dX6_undo_29 ?_
    have hf := Option.some.inj hf
    obtain ⟨h1, h2⟩ := Prod.mk.inj hf
    subst h1
    subst h2
    exact retI C hH rfl dX6_undo_30
  · have hf := if_p hf c_8
    refine lv_aload_n hx hb dX6_undo_7 rfl (lv_at hl 0 rfl) ?_
    refine lv_ldc hx hb hown (hT _ tw_20_8) dX6_undo_8 ?_
    obtain ⟨r_12, G_13, hc_14, hf⟩ := bind2_inv hf
    refine aftI (runV C hE hA hH [0, 1, 2, 3, 4, 5, 6, 7, 8, 9, 10, 11] nC_M_M_0_11 (sC_M_M_0_11 g ad G J) (kX6_finds l g ad _ G J (-1000000004 : Int32) r_12 G_13  hc_14) tw_5_9 tw_5_10 tw_5_11 tw_1_5 tw_5_12 hdX6_finds 0 rfl rfl rfl rfl ⟨Nat.le_of_ble_eq_true rfl, Nat.le_of_ble_eq_true rfl⟩ rfl hl.1 (rest := []) rfl (Nat.le_of_ble_eq_true rfl) dX6_undo_10 ⟨Nat.zero_le _, Nat.zero_le _⟩) hA hH [0, 1, 2, 3, 4, 5, 6, 7, 8, 9, 10, 11] [] (sC_M_M_0_11 g ad G J) (sR_M_M_0_11 g ad G J) nR_M_M_0_11 dj_M_M_0_11 [0, 1, 2, 3, 4, 5, 6, 7, 8, 9, 10, 11] nP_M_M_0_11 (sP_M_M_0_11 g ad G J G_13 J) (fun H locs hH => ?_)
    have hf := Option.some.inj hf
    obtain ⟨h1, h2⟩ := Prod.mk.inj hf
    subst h1
    subst h2
    exact retI C hH rfl dX6_undo_13
def fX6_tear_c12  (z0 : Int32) (G : M2) (J : J2) : Option (Int32 × M2) := letb (st2 G 0 (upd (G 0) 8 (0 : Int32))) (fun G_3 : M2 => some (z0, G_3))
def fX6_tear (G : M2) (J : J2) : Option (Int32 × M2) := (if (G 0 8) = 0 then fX6_tear_c12  (0 : Int32) G J else fX6_tear_c12  (1 : Int32) G J)
def rmX6_tear : Room := { frames := 0, cells := 0, slots := 0, locals := 0 }
theorem hdX6_tear : yX6_tear.cls = yX6_tear.cls ∧ yX6_tear.cls ≠ "java/lang/invoke/MethodHandle" ∧ yX6_tear.cls ≠ "java/lang/invoke/VarHandle" ∧ (parseMethodDescriptor yX6_tear.desc).map (fun d => d.parameters.length) = some 0 := by decide +kernel
set_option maxHeartbeats 4000000 in
set_option maxRecDepth 100000 in
theorem kX6_tear (l : Launch) (g : Gl) (ad : Nat → Nat) (sz : Nat) (G : M2) (J : J2)  (r : Int32) (G' : M2)  (hf : fX6_tear G J = some (r, G')) : MetI l yX6_tear (Cond.code yX6_tear cX6_tear 2 (some .int) :: wsL_law) rmX6_tear [.ref (ad 0)] g (wM g ad G J) sz r (wM g ad G' J) := by
  refine openI (by decide +kernel) (Nat.le_of_ble_eq_true rfl) ?_
  intro p e s m args below meth c A C hE hA hH ls hl
  have hl : lv_has ls 2 [(0, .ref (ad 0))] := hl
  have C : Cx p s m args meth c cX6_tear 2 (some .int) RX6 := C
  obtain ⟨hx, hb, hml, hown, hT, hr, hlk⟩ := id C
  rw [fX6_tear] at hf
  have j_12 : ∀ (z0 : Int32) (G : M2) (H : Heap) (locs : List Loc) (ls : Array Slot), fX6_tear_c12  z0 G J = some (r, G') → Hp g A s H locs (wM g ad G J) → lv_has ls 2 [(0, .ref (ad 0))] → W p l e rmX6_tear s m args below meth c H locs 0 0 (QI g A below args s r (wM g ad G' J)) (F0 m 12 ls [.int z0]) := by
    intro z0 G H locs  ls hf hH hl
    rw [fX6_tear_c12] at hf
    refine lv_istore_n (lv' := [(1, .int z0), (0, .ref (ad 0))]) hx hb dX6_tear_12 rfl hl (by decide) rfl (fun ls hl => ?_)
    refine lv_aload_n hx hb dX6_tear_13 rfl (lv_at hl 1 rfl) ?_
    refine lv_iconst (v := 0) hx hb dX6_tear_14 (by decide) ?_
    refine pf_RX6_254 C hE hH 0 rfl (by decide) (by decide) (Nat.le_of_ble_eq_true rfl) (fun q : M2 => wM g ad q J) (st2 G 0 (upd (G 0) 8 (0 : Int32))) rfl dX6_tear_15 (fun G_3 eG_3 H locs hH => ?_)
    have hf := letb_at hf G_3 eG_3
    refine lv_iload_n hx hb dX6_tear_18 rfl (lv_at hl 0 rfl) ?_
    have hf := Option.some.inj hf
    obtain ⟨h1, h2⟩ := Prod.mk.inj hf
    subst h1
    subst h2
    exact retI C hH rfl dX6_tear_19
  refine lv_aload_n hx hb dX6_tear_0 rfl (lv_at hl 0 rfl) ?_
  refine gf_RX6_254 C hE hH 0 rfl rfl dX6_tear_1 ?_
  refine lv_if_eq (tgt := 11) hx hb dX6_tear_4 (by decide) (fun c_4 => ?_) (fun c_4 => ?_)
  · have hf := if_p hf c_4
    refine lv_iconst (v := 0) hx hb dX6_tear_11 (by decide) ?_
    exact j_12 (0 : Int32) G _ _ ls hf hH (lv_sub hl [0] rfl)
  · have hf := if_n hf c_4
    refine lv_iconst (v := 1) hx hb dX6_tear_7 (by decide) ?_
    refine lv_goto (tgt := 12) hx hb dX6_tear_8 (by decide) ?_
    exact j_12 (1 : Int32) G _ _ ls hf hH (lv_sub hl [0] rfl)
def fX6_galesOf_c32  (y1 : Int32) (G : M2) (J : J2) : Option (Int32) := some y1
def fX6_galesOf_c24 (k_4 : Int32 → Int32 → M2 → J2 → Option (Int32)) (y2 : Int32) (z0 : Int32) (z1 : Int32) (G : M2) (J : J2) : Option (Int32) := letb (z1 + z0) (fun v_7 : Int32 => letb (y2 + (1 : Int32)) (fun v_8 : Int32 => k_4 v_7 v_8 G J))
def fX6_galesOf_c4  : Nat → Int32 → Int32 → M2 → J2 → Option (Int32)
  | 0, _, _, _, _ => none
  | n + 1, y1, y2, G, J => (if (28 : Int32) ≤ y2 then fX6_galesOf_c32  y1 G J else (fX6_seconds y2 G J).bind (fun (r_10 : Int32) => (if r_10 ≤ 0 then fX6_galesOf_c24 (fX6_galesOf_c4 n) y2 (0 : Int32) y1 G J else fX6_galesOf_c24 (fX6_galesOf_c4 n) y2 (1 : Int32) y1 G J)))
def fX6_galesOf (G : M2) (J : J2) : Option (Int32) := fX6_galesOf_c4  FU (0 : Int32) (0 : Int32) G J
def rmX6_galesOf : Room := { frames := 1, cells := 0, slots := 0, locals := 22 }
theorem hdX6_galesOf : yX6_galesOf.cls = yX6_galesOf.cls ∧ yX6_galesOf.cls ≠ "java/lang/invoke/MethodHandle" ∧ yX6_galesOf.cls ≠ "java/lang/invoke/VarHandle" ∧ (parseMethodDescriptor yX6_galesOf.desc).map (fun d => d.parameters.length) = some 0 := by decide +kernel
set_option maxHeartbeats 4000000 in
set_option maxRecDepth 100000 in
theorem kX6_galesOf (l : Launch) (g : Gl) (ad : Nat → Nat) (sz : Nat) (G : M2) (J : J2)  (r : Int32)  (hf : fX6_galesOf G J = some r) : MetPI l yX6_galesOf (Cond.code yX6_galesOf cX6_galesOf 3 (some .int) :: wsL_law) rmX6_galesOf [.ref (ad 0)] g (wM g ad G J) sz r := by
  refine openPI (by decide +kernel) (Nat.le_of_ble_eq_true rfl) ?_
  intro p e s m args below meth c A C hE hA hH ls hl
  have hl : lv_has ls 3 [(0, .ref (ad 0))] := hl
  have C : Cx p s m args meth c cX6_galesOf 3 (some .int) RX6 := C
  obtain ⟨hx, hb, hml, hown, hT, hr, hlk⟩ := id C
  rw [fX6_galesOf] at hf
  have lp_4 : ∀ (n_4 : Nat) (y1 : Int32) (y2 : Int32) (ls : Array Slot), fX6_galesOf_c4  n_4 y1 y2 G J = some r → lv_has ls 3 [(0, .ref (ad 0)), (1, .int y1), (2, .int y2)] → W p l e rmX6_galesOf s m args below meth c s.heap [] 0 0 (QPI below args s r) (F0 m 4 ls []) := by
    intro n_4
    induction n_4 with
    | zero =>
      intro y1 y2  ls hf hl
      rw [fX6_galesOf_c4] at hf
      cases hf
    | succ n_4 ih_4 =>
      intro y1 y2  ls hf hl
      rw [fX6_galesOf_c4] at hf
      have j_32 : ∀ (y1 : Int32) (ls : Array Slot), fX6_galesOf_c32  y1 G J = some r → lv_has ls 3 [(1, .int y1)] → W p l e rmX6_galesOf s m args below meth c s.heap [] 0 0 (QPI below args s r) (F0 m 32 ls []) := by
        intro y1  ls hf hl
        rw [fX6_galesOf_c32] at hf
        refine lv_iload_n hx hb dX6_galesOf_32 rfl (lv_at hl 0 rfl) ?_
        have h1 := Option.some.inj hf
        subst h1
        exact retPI C rfl dX6_galesOf_33
      have j_24 : ∀ (y2 : Int32) (z0 : Int32) (z1 : Int32) (ls : Array Slot), fX6_galesOf_c24 (fX6_galesOf_c4 n_4) y2 z0 z1 G J = some r → lv_has ls 3 [(0, .ref (ad 0)), (2, .int y2)] → W p l e rmX6_galesOf s m args below meth c s.heap [] 0 0 (QPI below args s r) (F0 m 24 ls [.int z0, .int z1]) := by
        intro y2 z0 z1  ls hf hl
        rw [fX6_galesOf_c24] at hf
        refine lv_iadd hx hb dX6_galesOf_24 ?_
        refine lv_topi (fun v_7 ev_7 => ?_)
        have hf := letb_at hf v_7 ev_7
        refine lv_istore_n (lv' := [(1, .int v_7), (0, .ref (ad 0)), (2, .int y2)]) hx hb dX6_galesOf_25 rfl hl (by decide) rfl (fun ls hl => ?_)
        obtain ⟨v_8, ev_8⟩ : ∃ z : Int32, z = y2 + (1 : Int32) := ⟨_, rfl⟩
        have hf := letb_at hf v_8 ev_8
        refine lv_iinc (v := v_8) (lv' := [(2, .int v_8), (1, .int v_7), (0, .ref (ad 0))]) hx hb dX6_galesOf_26 hl (k := 2) rfl (by rw [ev_8]; rfl) (by decide) rfl (fun ls hl => ?_)
        refine lv_goto (tgt := 4) hx hb dX6_galesOf_29 (by decide) ?_
        exact ih_4 v_7 v_8 ls hf (lv_sub hl [2, 1, 0] rfl)
      refine lv_iload_n hx hb dX6_galesOf_4 rfl (lv_at hl 2 rfl) ?_
      refine lv_bipush (v := 28) hx hb dX6_galesOf_5 (by decide) ?_
      refine lv_icmp_ge (tgt := 32) hx hb dX6_galesOf_7 (by decide) (fun c_9 => ?_) (fun c_9 => ?_)
      · have hf := if_p hf c_9
        exact j_32 y1 ls hf (lv_sub hl [1] rfl)
      · have hf := if_n hf c_9
        refine lv_iload_n hx hb dX6_galesOf_10 rfl (lv_at hl 1 rfl) ?_
        refine lv_aload_n hx hb dX6_galesOf_11 rfl (lv_at hl 0 rfl) ?_
        refine lv_iload_n hx hb dX6_galesOf_12 rfl (lv_at hl 2 rfl) ?_
        obtain ⟨r_10, hc_11, hf⟩ := bind_inv hf
        refine aftPI (runV C hE hA hH [0, 1, 2, 3, 4, 5, 6, 7, 8, 9, 10, 11] nC_M_M_0_11 (sC_M_M_0_11 g ad G J) (kX6_seconds l g ad _ G J y2 r_10  hc_11) tw_6_14 tw_6_15 tw_6_16 tw_1_5 tw_6_17 hdX6_seconds 0 rfl rfl rfl rfl ⟨Nat.le_of_ble_eq_true rfl, Nat.le_of_ble_eq_true rfl⟩ rfl hl.1 (rest := [.int y1]) rfl (Nat.le_of_ble_eq_true rfl) dX6_galesOf_13 ⟨Nat.zero_le _, Nat.zero_le _⟩) ?_
        refine lv_if_le (tgt := 23) hx hb dX6_galesOf_16 (by decide) (fun c_12 => ?_) (fun c_12 => ?_)
        · have hf := if_p hf c_12
          refine lv_iconst (v := 0) hx hb dX6_galesOf_23 (by decide) ?_
          exact j_24 y2 (0 : Int32) y1 ls hf (lv_sub hl [0, 2] rfl)
        · have hf := if_n hf c_12
          refine lv_iconst (v := 1) hx hb dX6_galesOf_19 (by decide) ?_
          refine lv_goto (tgt := 24) hx hb dX6_galesOf_20 (by decide) ?_
          exact j_24 y2 (1 : Int32) y1 ls hf (lv_sub hl [0, 2] rfl)
  refine lv_iconst (v := 0) hx hb dX6_galesOf_0 (by decide) ?_
  refine lv_istore_n (lv' := [(1, .int (0 : Int32)), (0, .ref (ad 0))]) hx hb dX6_galesOf_1 rfl hl (by decide) rfl (fun ls hl => ?_)
  refine lv_iconst (v := 0) hx hb dX6_galesOf_2 (by decide) ?_
  refine lv_istore_n (lv' := [(2, .int (0 : Int32)), (1, .int (0 : Int32)), (0, .ref (ad 0))]) hx hb dX6_galesOf_3 rfl hl (by decide) rfl (fun ls hl => ?_)
  exact lp_4 _ (0 : Int32) (0 : Int32) ls hf (lv_sub hl [2, 1, 0] rfl)
def fX6_count (x1 : Int32) (G : M2) (J : J2) : Option (Int32 × M2) := (if x1 = 0 then grd (inb (6 : Int32) 75) (some (G 1 (6 : Int32).toNatClampNeg, G)) else (if x1 = 1 then some (G 0 2, G) else (if x1 = 2 then (fX6_onSet G J).bind (fun (r_19 : Int32) => (fX6_bits r_19).bind (fun (r_21 : Int32) => some (r_21, G))) else (if x1 = 3 then (fX6_galesOf G J).bind (fun (r_24 : Int32) => some (r_24, G)) else bind2 (fX6_finds (-1000000001 : Int32) G J) (fun (r_26 : Int32) (G_27 : M2) => some (r_26, G_27))))))
def rmX6_count : Room := { frames := 2, cells := 0, slots := 0, locals := 44 }
theorem hdX6_count : yX6_count.cls = yX6_count.cls ∧ yX6_count.cls ≠ "java/lang/invoke/MethodHandle" ∧ yX6_count.cls ≠ "java/lang/invoke/VarHandle" ∧ (parseMethodDescriptor yX6_count.desc).map (fun d => d.parameters.length) = some 1 := by decide +kernel
set_option maxHeartbeats 4000000 in
set_option maxRecDepth 100000 in
theorem kX6_count (l : Launch) (g : Gl) (ad : Nat → Nat) (sz : Nat) (G : M2) (J : J2) (x1 : Int32) (r : Int32) (G' : M2)  (hf : fX6_count x1 G J = some (r, G')) : MetI l yX6_count (Cond.code yX6_count cX6_count 2 (some .int) :: wsL_law) rmX6_count [.ref (ad 0), .int x1] g (wM g ad G J) sz r (wM g ad G' J) := by
  refine openI (by decide +kernel) (Nat.le_of_ble_eq_true rfl) ?_
  intro p e s m args below meth c A C hE hA hH ls hl
  have hl : lv_has ls 2 [(0, .ref (ad 0)), (1, .int x1)] := hl
  have C : Cx p s m args meth c cX6_count 2 (some .int) RX6 := C
  obtain ⟨hx, hb, hml, hown, hT, hr, hlk⟩ := id C
  rw [fX6_count] at hf
  refine lv_iload_n hx hb dX6_count_0 rfl (lv_at hl 1 rfl) ?_
  by_cases c_15 : x1 = 0
  · have hf := if_p hf c_15
    refine lv_tableIn (tgt := 32) hx hb dX6_count_1 (by rw [c_15]; decide) (by rw [c_15]; decide) (by rw [c_15]; rfl) (by decide) ?_
    refine lv_aload_n hx hb dX6_count_32 rfl (lv_at hl 0 rfl) ?_
    refine gf_RX6_7 C hE hH 0 rfl rfl dX6_count_33 ?_
    refine lv_bipush (v := 6) hx hb dX6_count_36 (by decide) ?_
    obtain ⟨hi_16, hf⟩ := grd_inv hf
    refine xiald C hE hH 1 rfl hi_16 dX6_count_38 ?_
    have hf := Option.some.inj hf
    obtain ⟨h1, h2⟩ := Prod.mk.inj hf
    subst h1
    subst h2
    exact retI C hH rfl dX6_count_39
  have hf := if_n hf c_15
  by_cases c_17 : x1 = 1
  · have hf := if_p hf c_17
    refine lv_tableIn (tgt := 40) hx hb dX6_count_1 (by rw [c_17]; decide) (by rw [c_17]; decide) (by rw [c_17]; rfl) (by decide) ?_
    refine lv_aload_n hx hb dX6_count_40 rfl (lv_at hl 0 rfl) ?_
    refine gf_RX6_146 C hE hH 0 rfl rfl dX6_count_41 ?_
    have hf := Option.some.inj hf
    obtain ⟨h1, h2⟩ := Prod.mk.inj hf
    subst h1
    subst h2
    exact retI C hH rfl dX6_count_44
  have hf := if_n hf c_17
  by_cases c_18 : x1 = 2
  · have hf := if_p hf c_18
    refine lv_tableIn (tgt := 45) hx hb dX6_count_1 (by rw [c_18]; decide) (by rw [c_18]; decide) (by rw [c_18]; rfl) (by decide) ?_
    refine lv_aload_n hx hb dX6_count_45 rfl (lv_at hl 0 rfl) ?_
    obtain ⟨r_19, hc_20, hf⟩ := bind_inv hf
    refine aftPI (runV C hE hA hH [0, 1, 2, 3, 4, 5, 6, 7, 8, 9, 10, 11] nC_M_M_0_11 (sC_M_M_0_11 g ad G J) (kX6_onSet l g ad _ G J r_19  hc_20) tw_17_10 tw_17_11 tw_17_12 tw_1_5 tw_17_13 hdX6_onSet 0 rfl rfl rfl rfl ⟨Nat.le_of_ble_eq_true rfl, Nat.le_of_ble_eq_true rfl⟩ rfl hl.1 (rest := []) rfl (Nat.le_of_ble_eq_true rfl) dX6_count_46 ⟨Nat.zero_le _, Nat.zero_le _⟩) ?_
    obtain ⟨r_21, hc_22, hf⟩ := bind_inv hf
    refine aftPI (runS C hE hA hH [] rfl rfl (kX6_bits l g ad _ r_19 r_21  hc_22) tw_17_14 tw_17_15 tw_1_5 tw_17_16 hdX6_bits rfl rfl ⟨Nat.le_of_ble_eq_true rfl, Nat.le_of_ble_eq_true rfl⟩ rfl hl.1 (rest := []) rfl (Nat.le_of_ble_eq_true rfl) dX6_count_49 ⟨Nat.zero_le _, Nat.zero_le _⟩) ?_
    have hf := Option.some.inj hf
    obtain ⟨h1, h2⟩ := Prod.mk.inj hf
    subst h1
    subst h2
    exact retI C hH rfl dX6_count_52
  have hf := if_n hf c_18
  by_cases c_23 : x1 = 3
  · have hf := if_p hf c_23
    refine lv_tableIn (tgt := 53) hx hb dX6_count_1 (by rw [c_23]; decide) (by rw [c_23]; decide) (by rw [c_23]; rfl) (by decide) ?_
    refine lv_aload_n hx hb dX6_count_53 rfl (lv_at hl 0 rfl) ?_
    obtain ⟨r_24, hc_25, hf⟩ := bind_inv hf
    refine aftPI (runV C hE hA hH [0, 1, 2, 3, 4, 5, 6, 7, 8, 9, 10, 11] nC_M_M_0_11 (sC_M_M_0_11 g ad G J) (kX6_galesOf l g ad _ G J r_24  hc_25) tw_40_6 tw_40_7 tw_40_8 tw_1_5 tw_40_9 hdX6_galesOf 0 rfl rfl rfl rfl ⟨Nat.le_of_ble_eq_true rfl, Nat.le_of_ble_eq_true rfl⟩ rfl hl.1 (rest := []) rfl (Nat.le_of_ble_eq_true rfl) dX6_count_54 ⟨Nat.zero_le _, Nat.zero_le _⟩) ?_
    have hf := Option.some.inj hf
    obtain ⟨h1, h2⟩ := Prod.mk.inj hf
    subst h1
    subst h2
    exact retI C hH rfl dX6_count_57
  have hf := if_n hf c_23
  refine lv_tableOut (tgt := 58) hx hb dX6_count_1 (by have qc_15 := lv_neT c_15 (a := 0) (by decide); have qc_17 := lv_neT c_17 (a := 1) (by decide); have qc_18 := lv_neT c_18 (a := 2) (by decide); have qc_23 := lv_neT c_23 (a := 3) (by decide); omega) (by decide) ?_
  refine lv_aload_n hx hb dX6_count_58 rfl (lv_at hl 0 rfl) ?_
  refine lv_ldc hx hb hown (hT _ tw_5_1) dX6_count_59 ?_
  obtain ⟨r_26, G_27, hc_28, hf⟩ := bind2_inv hf
  refine aftI (runV C hE hA hH [0, 1, 2, 3, 4, 5, 6, 7, 8, 9, 10, 11] nC_M_M_0_11 (sC_M_M_0_11 g ad G J) (kX6_finds l g ad _ G J (-1000000001 : Int32) r_26 G_27  hc_28) tw_5_9 tw_5_10 tw_5_11 tw_1_5 tw_5_12 hdX6_finds 0 rfl rfl rfl rfl ⟨Nat.le_of_ble_eq_true rfl, Nat.le_of_ble_eq_true rfl⟩ rfl hl.1 (rest := []) rfl (Nat.le_of_ble_eq_true rfl) dX6_count_61 ⟨Nat.zero_le _, Nat.zero_le _⟩) hA hH [0, 1, 2, 3, 4, 5, 6, 7, 8, 9, 10, 11] [] (sC_M_M_0_11 g ad G J) (sR_M_M_0_11 g ad G J) nR_M_M_0_11 dj_M_M_0_11 [0, 1, 2, 3, 4, 5, 6, 7, 8, 9, 10, 11] nP_M_M_0_11 (sP_M_M_0_11 g ad G J G_27 J) (fun H locs hH => ?_)
  have hf := Option.some.inj hf
  obtain ⟨h1, h2⟩ := Prod.mk.inj hf
  subst h1
  subst h2
  exact retI C hH rfl dX6_count_64
def fX6_status_c64  (z0 : Int32) (G : M2) (J : J2) : Option (Int32 × M2) := some (z0, G)
def fX6_status_c63  (z0 : Int32) (G : M2) (J : J2) : Option (Int32 × M2) := grd (inb z0 7) (fX6_status_c64  (G 2 z0.toNatClampNeg) G J)
def fX6_status_c42  (y1 : Int32) (y2 : Int32) (G : M2) (J : J2) : Option (Int32 × M2) := (if 0 ≤ y1 then (if 0 ≤ y1 then fX6_status_c63  y1 G J else fX6_status_c63  (0 : Int32) G J) else fX6_status_c64  y2 G J)
def fX6_status_c21  : Nat → Int32 → Int32 → Int32 → M2 → J2 → Option (Int32 × M2)
  | 0, _, _, _, _, _ => none
  | n + 1, y1, y2, y3, G, J => (if (7 : Int32) ≤ y3 then fX6_status_c42  y1 y2 G J else grd (inb y3 7) (letb (y2 + (G 2 y3.toNatClampNeg)) (fun v_19 : Int32 => letb (y3 + (1 : Int32)) (fun v_20 : Int32 => fX6_status_c21 n y1 v_19 v_20 G J))))
def fX6_status (x1 : Int32) (G : M2) (J : J2) : Option (Int32 × M2) := (fX6_in x1 (-1 : Int32) (6 : Int32)).bind (fun (r_21 : Int32) => (if r_21 = 0 then bind2 (fX6_finds (-1000000001 : Int32) G J) (fun (r_24 : Int32) (G_25 : M2) => some (r_24, G_25)) else fX6_status_c21  FU x1 (0 : Int32) (0 : Int32) G J))
def rmX6_status : Room := { frames := 1, cells := 0, slots := 0, locals := 22 }
theorem hdX6_status : yX6_status.cls = yX6_status.cls ∧ yX6_status.cls ≠ "java/lang/invoke/MethodHandle" ∧ yX6_status.cls ≠ "java/lang/invoke/VarHandle" ∧ (parseMethodDescriptor yX6_status.desc).map (fun d => d.parameters.length) = some 1 := by decide +kernel
set_option maxHeartbeats 4000000 in
set_option maxRecDepth 100000 in
theorem kX6_status (l : Launch) (g : Gl) (ad : Nat → Nat) (sz : Nat) (G : M2) (J : J2) (x1 : Int32) (r : Int32) (G' : M2)  (hf : fX6_status x1 G J = some (r, G')) : MetI l yX6_status (Cond.code yX6_status cX6_status 4 (some .int) :: wsL_law) rmX6_status [.ref (ad 0), .int x1] g (wM g ad G J) sz r (wM g ad G' J) := by
  refine openI (by decide +kernel) (Nat.le_of_ble_eq_true rfl) ?_
  intro p e s m args below meth c A C hE hA hH ls hl
  have hl : lv_has ls 4 [(0, .ref (ad 0)), (1, .int x1)] := hl
  have C : Cx p s m args meth c cX6_status 4 (some .int) RX6 := C
  obtain ⟨hx, hb, hml, hown, hT, hr, hlk⟩ := id C
  rw [fX6_status] at hf
  have lp_21 : ∀ (n_21 : Nat) (y1 : Int32) (y2 : Int32) (y3 : Int32) (G : M2) (H : Heap) (locs : List Loc) (ls : Array Slot), fX6_status_c21  n_21 y1 y2 y3 G J = some (r, G') → Hp g A s H locs (wM g ad G J) → lv_has ls 4 [(0, .ref (ad 0)), (1, .int y1), (2, .int y2), (3, .int y3)] → W p l e rmX6_status s m args below meth c H locs 0 0 (QI g A below args s r (wM g ad G' J)) (F0 m 21 ls []) := by
    intro n_21
    induction n_21 with
    | zero =>
      intro y1 y2 y3 G H locs  ls hf hH hl
      rw [fX6_status_c21] at hf
      cases hf
    | succ n_21 ih_21 =>
      intro y1 y2 y3 G H locs  ls hf hH hl
      rw [fX6_status_c21] at hf
      have j_42 : ∀ (y1 : Int32) (y2 : Int32) (G : M2) (H : Heap) (locs : List Loc) (ls : Array Slot), fX6_status_c42  y1 y2 G J = some (r, G') → Hp g A s H locs (wM g ad G J) → lv_has ls 4 [(0, .ref (ad 0)), (1, .int y1), (2, .int y2)] → W p l e rmX6_status s m args below meth c H locs 0 0 (QI g A below args s r (wM g ad G' J)) (F0 m 42 ls []) := by
        intro y1 y2 G H locs  ls hf hH hl
        rw [fX6_status_c42] at hf
        have j_64 : ∀ (z0 : Int32) (G : M2) (H : Heap) (locs : List Loc) (ls : Array Slot), fX6_status_c64  z0 G J = some (r, G') → Hp g A s H locs (wM g ad G J) → lv_has ls 4 [] → W p l e rmX6_status s m args below meth c H locs 0 0 (QI g A below args s r (wM g ad G' J)) (F0 m 64 ls [.int z0]) := by
          intro z0 G H locs  ls hf hH hl
          rw [fX6_status_c64] at hf
          have hf := Option.some.inj hf
          obtain ⟨h1, h2⟩ := Prod.mk.inj hf
          subst h1
          subst h2
          exact retI C hH rfl dX6_status_64
        have j_63 : ∀ (z0 : Int32) (G : M2) (H : Heap) (locs : List Loc) (ls : Array Slot), fX6_status_c63  z0 G J = some (r, G') → Hp g A s H locs (wM g ad G J) → lv_has ls 4 [] → W p l e rmX6_status s m args below meth c H locs 0 0 (QI g A below args s r (wM g ad G' J)) (F0 m 63 ls [.int z0, .ref (ad 2)]) := by
          intro z0 G H locs  ls hf hH hl
          rw [fX6_status_c63] at hf
          obtain ⟨hi_14, hf⟩ := grd_inv hf
          refine xiald C hE hH 2 rfl hi_14 dX6_status_63 ?_
          exact j_64 (G 2 z0.toNatClampNeg) G _ _ ls hf hH (lv_sub hl [] rfl)
        refine lv_iload_n hx hb dX6_status_42 rfl (lv_at hl 1 rfl) ?_
        refine lv_if_ge (tgt := 50) hx hb dX6_status_43 (by decide) (fun c_15 => ?_) (fun c_15 => ?_)
        · have hf := if_p hf c_15
          refine lv_aload_n hx hb dX6_status_50 rfl (lv_at hl 0 rfl) ?_
          refine gf_RX6_13 C hE hH 0 rfl rfl dX6_status_51 ?_
          refine lv_iload_n hx hb dX6_status_54 rfl (lv_at hl 1 rfl) ?_
          refine lv_if_ge (tgt := 62) hx hb dX6_status_55 (by decide) (fun c_16 => ?_) (fun c_16 => ?_)
          · have hf := if_p hf c_16
            refine lv_iload_n hx hb dX6_status_62 rfl (lv_at hl 1 rfl) ?_
            exact j_63 y1 G _ _ ls hf hH (lv_sub hl [] rfl)
          · have hf := if_n hf c_16
            refine lv_iconst (v := 0) hx hb dX6_status_58 (by decide) ?_
            refine lv_goto (tgt := 63) hx hb dX6_status_59 (by decide) ?_
            exact j_63 (0 : Int32) G _ _ ls hf hH (lv_sub hl [] rfl)
        · have hf := if_n hf c_15
          refine lv_iload_n hx hb dX6_status_46 rfl (lv_at hl 2 rfl) ?_
          refine lv_goto (tgt := 64) hx hb dX6_status_47 (by decide) ?_
          exact j_64 y2 G _ _ ls hf hH (lv_sub hl [] rfl)
      refine lv_iload_n hx hb dX6_status_21 rfl (lv_at hl 3 rfl) ?_
      refine lv_bipush (v := 7) hx hb dX6_status_22 (by decide) ?_
      refine lv_icmp_ge (tgt := 42) hx hb dX6_status_24 (by decide) (fun c_17 => ?_) (fun c_17 => ?_)
      · have hf := if_p hf c_17
        exact j_42 y1 y2 G _ _ ls hf hH (lv_sub hl [0, 1, 2] rfl)
      · have hf := if_n hf c_17
        refine lv_iload_n hx hb dX6_status_27 rfl (lv_at hl 2 rfl) ?_
        refine lv_aload_n hx hb dX6_status_28 rfl (lv_at hl 0 rfl) ?_
        refine gf_RX6_13 C hE hH 0 rfl rfl dX6_status_29 ?_
        refine lv_iload_n hx hb dX6_status_32 rfl (lv_at hl 3 rfl) ?_
        obtain ⟨hi_18, hf⟩ := grd_inv hf
        refine xiald C hE hH 2 rfl hi_18 dX6_status_33 ?_
        refine lv_iadd hx hb dX6_status_34 ?_
        refine lv_topi (fun v_19 ev_19 => ?_)
        have hf := letb_at hf v_19 ev_19
        refine lv_istore_n (lv' := [(2, .int v_19), (0, .ref (ad 0)), (1, .int y1), (3, .int y3)]) hx hb dX6_status_35 rfl hl (by decide) rfl (fun ls hl => ?_)
        obtain ⟨v_20, ev_20⟩ : ∃ z : Int32, z = y3 + (1 : Int32) := ⟨_, rfl⟩
        have hf := letb_at hf v_20 ev_20
        refine lv_iinc (v := v_20) (lv' := [(3, .int v_20), (2, .int v_19), (0, .ref (ad 0)), (1, .int y1)]) hx hb dX6_status_36 hl (k := 3) rfl (by rw [ev_20]; rfl) (by decide) rfl (fun ls hl => ?_)
        refine lv_goto (tgt := 21) hx hb dX6_status_39 (by decide) ?_
        exact ih_21 y1 v_19 v_20 G _ _ ls hf hH (lv_sub hl [2, 3, 1, 0] rfl)
  refine lv_iload_n hx hb dX6_status_0 rfl (lv_at hl 1 rfl) ?_
  refine lv_iconst (v := (-1)) hx hb dX6_status_1 (by decide) ?_
  refine lv_bipush (v := 6) hx hb dX6_status_2 (by decide) ?_
  obtain ⟨r_21, hc_22, hf⟩ := bind_inv hf
  refine aftPI (runS C hE hA hH [] rfl rfl (kX6_in l g ad _ x1 (-1 : Int32) (6 : Int32) r_21  hc_22) tw_5_2 tw_5_3 tw_1_5 tw_5_4 hdX6_in rfl rfl ⟨Nat.le_of_ble_eq_true rfl, Nat.le_of_ble_eq_true rfl⟩ rfl hl.1 (rest := []) rfl (Nat.le_of_ble_eq_true rfl) dX6_status_4 ⟨Nat.zero_le _, Nat.zero_le _⟩) ?_
  refine lv_if_ne (tgt := 17) hx hb dX6_status_7 (by decide) (fun c_23 => ?_) (fun c_23 => ?_)
  · have hf := if_n hf c_23
    refine lv_iconst (v := 0) hx hb dX6_status_17 (by decide) ?_
    refine lv_istore_n (lv' := [(2, .int (0 : Int32)), (0, .ref (ad 0)), (1, .int x1)]) hx hb dX6_status_18 rfl hl (by decide) rfl (fun ls hl => ?_)
    refine lv_iconst (v := 0) hx hb dX6_status_19 (by decide) ?_
    refine lv_istore_n (lv' := [(3, .int (0 : Int32)), (2, .int (0 : Int32)), (0, .ref (ad 0)), (1, .int x1)]) hx hb dX6_status_20 rfl hl (by decide) rfl (fun ls hl => ?_)
    exact lp_21 _ x1 (0 : Int32) (0 : Int32) G _ _ ls hf hH (lv_sub hl [2, 3, 1, 0] rfl)
  · have hf := if_p hf c_23
    refine lv_aload_n hx hb dX6_status_10 rfl (lv_at hl 0 rfl) ?_
    refine lv_ldc hx hb hown (hT _ tw_5_1) dX6_status_11 ?_
    obtain ⟨r_24, G_25, hc_26, hf⟩ := bind2_inv hf
    refine aftI (runV C hE hA hH [0, 1, 2, 3, 4, 5, 6, 7, 8, 9, 10, 11] nC_M_M_0_11 (sC_M_M_0_11 g ad G J) (kX6_finds l g ad _ G J (-1000000001 : Int32) r_24 G_25  hc_26) tw_5_9 tw_5_10 tw_5_11 tw_1_5 tw_5_12 hdX6_finds 0 rfl rfl rfl rfl ⟨Nat.le_of_ble_eq_true rfl, Nat.le_of_ble_eq_true rfl⟩ rfl hl.1 (rest := []) rfl (Nat.le_of_ble_eq_true rfl) dX6_status_13 ⟨Nat.zero_le _, Nat.zero_le _⟩) hA hH [0, 1, 2, 3, 4, 5, 6, 7, 8, 9, 10, 11] [] (sC_M_M_0_11 g ad G J) (sR_M_M_0_11 g ad G J) nR_M_M_0_11 dj_M_M_0_11 [0, 1, 2, 3, 4, 5, 6, 7, 8, 9, 10, 11] nP_M_M_0_11 (sP_M_M_0_11 g ad G J G_25 J) (fun H locs hH => ?_)
    have hf := Option.some.inj hf
    obtain ⟨h1, h2⟩ := Prod.mk.inj hf
    subst h1
    subst h2
    exact retI C hH rfl dX6_status_16
