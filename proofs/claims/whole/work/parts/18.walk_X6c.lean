def fX6_feed_c77  (G : M2) (J : J2) : Option (Int32 × M2) := some (G 0 2, G)
def fX6_feed_c38  : Nat → Int32 → Int32 → M2 → J2 → Option (Int32 × M2)
  | 0, _, _, _, _ => none
  | n + 1, y1, y3, G, J => (if y3 < 0 then fX6_feed_c77  G J else grd (inb (G 0 2) 120) (letb (st2 G 5 (upd (G 5) (G 0 2).toNatClampNeg ((y1 >>> (((8 : Int32) * y3) &&& 31)) &&& (255 : Int32)))) (fun G_19 : M2 => letb (st2 G_19 0 (upd (G_19 0) 2 ((G_19 0 2) + (1 : Int32)))) (fun G_20 : M2 => letb (y3 + (-1 : Int32)) (fun v_21 : Int32 => fX6_feed_c38 n y1 v_21 G_20 J)))))
def fX6_feed (x1 : Int32) (x2 : Int32) (G : M2) (J : J2) : Option (Int32 × M2) := (fX6_in x2 (1 : Int32) (4 : Int32)).bind (fun (r_22 : Int32) => (if r_22 = 0 then bind2 (fX6_finds (-1000000001 : Int32) G J) (fun (r_30 : Int32) (G_31 : M2) => some (r_30, G_31)) else (if ((G 0 2) + x2) ≤ (120 : Int32) then letb (x2 - (1 : Int32)) (fun v_26 : Int32 => fX6_feed_c38  FU x1 v_26 G J) else bind2 (fX6_finds (-1000000002 : Int32) G J) (fun (r_27 : Int32) (G_28 : M2) => some (r_27, G_28)))))
def rmX6_feed : Room := { frames := 1, cells := 0, slots := 0, locals := 22 }
theorem hdX6_feed : yX6_feed.cls = yX6_feed.cls ∧ yX6_feed.cls ≠ "java/lang/invoke/MethodHandle" ∧ yX6_feed.cls ≠ "java/lang/invoke/VarHandle" ∧ (parseMethodDescriptor yX6_feed.desc).map (fun d => d.parameters.length) = some 2 := by decide +kernel
set_option maxHeartbeats 4000000 in
set_option maxRecDepth 100000 in
theorem kX6_feed (l : Launch) (g : Gl) (ad : Nat → Nat) (sz : Nat) (G : M2) (J : J2) (x1 : Int32) (x2 : Int32) (r : Int32) (G' : M2)  (hf : fX6_feed x1 x2 G J = some (r, G')) : MetI l yX6_feed (Cond.code yX6_feed cX6_feed 4 (some .int) :: wsL_law) rmX6_feed [.ref (ad 0), .int x1, .int x2] g (wM g ad G J) sz r (wM g ad G' J) := by
  refine openI (by decide +kernel) (Nat.le_of_ble_eq_true rfl) ?_
  intro p e s m args below meth c A C hE hA hH ls hl
  have hl : lv_has ls 4 [(0, .ref (ad 0)), (1, .int x1), (2, .int x2)] := hl
  have C : Cx p s m args meth c cX6_feed 4 (some .int) RX6 := C
  obtain ⟨hx, hb, hml, hown, hT, hr, hlk⟩ := id C
  rw [fX6_feed] at hf
  have lp_38 : ∀ (n_38 : Nat) (y1 : Int32) (y3 : Int32) (G : M2) (H : Heap) (locs : List Loc) (ls : Array Slot), fX6_feed_c38  n_38 y1 y3 G J = some (r, G') → Hp g A s H locs (wM g ad G J) → lv_has ls 4 [(0, .ref (ad 0)), (1, .int y1), (3, .int y3)] → W p l e rmX6_feed s m args below meth c H locs 0 0 (QI g A below args s r (wM g ad G' J)) (F0 m 38 ls []) := by
    intro n_38
    induction n_38 with
    | zero =>
      intro y1 y3 G H locs  ls hf hH hl
      rw [fX6_feed_c38] at hf
      cases hf
    | succ n_38 ih_38 =>
      intro y1 y3 G H locs  ls hf hH hl
      rw [fX6_feed_c38] at hf
      have j_77 : ∀ (G : M2) (H : Heap) (locs : List Loc) (ls : Array Slot), fX6_feed_c77  G J = some (r, G') → Hp g A s H locs (wM g ad G J) → lv_has ls 4 [(0, .ref (ad 0))] → W p l e rmX6_feed s m args below meth c H locs 0 0 (QI g A below args s r (wM g ad G' J)) (F0 m 77 ls []) := by
        intro G H locs  ls hf hH hl
        rw [fX6_feed_c77] at hf
        refine lv_aload_n hx hb dX6_feed_77 rfl (lv_at hl 0 rfl) ?_
        refine gf_RX6_146 C hE hH 0 rfl rfl dX6_feed_78 ?_
        have hf := Option.some.inj hf
        obtain ⟨h1, h2⟩ := Prod.mk.inj hf
        subst h1
        subst h2
        exact retI C hH rfl dX6_feed_81
      refine lv_iload_n hx hb dX6_feed_38 rfl (lv_at hl 2 rfl) ?_
      refine lv_if_lt (tgt := 77) hx hb dX6_feed_39 (by decide) (fun c_17 => ?_) (fun c_17 => ?_)
      · have hf := if_p hf c_17
        exact j_77 G _ _ ls hf hH (lv_sub hl [0] rfl)
      · have hf := if_n hf c_17
        refine lv_aload_n hx hb dX6_feed_42 rfl (lv_at hl 0 rfl) ?_
        refine gf_RX6_22 C hE hH 0 rfl rfl dX6_feed_43 ?_
        refine lv_aload_n hx hb dX6_feed_46 rfl (lv_at hl 0 rfl) ?_
        refine gf_RX6_146 C hE hH 0 rfl rfl dX6_feed_47 ?_
        refine lv_iload_n hx hb dX6_feed_50 rfl (lv_at hl 1 rfl) ?_
        refine lv_bipush (v := 8) hx hb dX6_feed_51 (by decide) ?_
        refine lv_iload_n hx hb dX6_feed_53 rfl (lv_at hl 2 rfl) ?_
        refine lv_imul hx hb dX6_feed_54 ?_
        refine lv_ishr hx hb dX6_feed_55 ?_
        refine lv_sipush (v := 255) hx hb dX6_feed_56 (by decide) ?_
        refine lv_iand hx hb dX6_feed_59 ?_
        obtain ⟨hi_18, hf⟩ := grd_inv hf
        refine xiast C hE hH 5 rfl hi_18 (fun q : M2 => wM g ad q J) (st2 G 5 (upd (G 5) (G 0 2).toNatClampNeg ((y1 >>> (((8 : Int32) * y3) &&& 31)) &&& (255 : Int32)))) rfl dX6_feed_60 (fun G_19 eG_19 H locs hH => ?_)
        have hf := letb_at hf G_19 eG_19
        refine lv_aload_n hx hb dX6_feed_61 rfl (lv_at hl 0 rfl) ?_
        refine lv_dup hx hb dX6_feed_62 rfl ?_
        refine gf_RX6_146 C hE hH 0 rfl rfl dX6_feed_63 ?_
        refine lv_iconst (v := 1) hx hb dX6_feed_66 (by decide) ?_
        refine lv_iadd hx hb dX6_feed_67 ?_
        refine pf_RX6_146 C hE hH 0 rfl rfl rfl (Nat.le_of_ble_eq_true rfl) (fun q : M2 => wM g ad q J) (st2 G_19 0 (upd (G_19 0) 2 ((G_19 0 2) + (1 : Int32)))) rfl dX6_feed_68 (fun G_20 eG_20 H locs hH => ?_)
        have hf := letb_at hf G_20 eG_20
        obtain ⟨v_21, ev_21⟩ : ∃ z : Int32, z = y3 + (-1 : Int32) := ⟨_, rfl⟩
        have hf := letb_at hf v_21 ev_21
        refine lv_iinc (v := v_21) (lv' := [(3, .int v_21), (0, .ref (ad 0)), (1, .int y1)]) hx hb dX6_feed_71 hl (k := 2) rfl (by rw [ev_21]; rfl) (by decide) rfl (fun ls hl => ?_)
        refine lv_goto (tgt := 38) hx hb dX6_feed_74 (by decide) ?_
        exact ih_38 y1 v_21 G_20 _ _ ls hf hH (lv_sub hl [1, 2, 0] rfl)
  refine lv_iload_n hx hb dX6_feed_0 rfl (lv_at hl 2 rfl) ?_
  refine lv_iconst (v := 1) hx hb dX6_feed_1 (by decide) ?_
  refine lv_iconst (v := 4) hx hb dX6_feed_2 (by decide) ?_
  obtain ⟨r_22, hc_23, hf⟩ := bind_inv hf
  refine aftPI (runS C hE hA hH [] rfl rfl (kX6_in l g ad _ x2 (1 : Int32) (4 : Int32) r_22  hc_23) tw_5_2 tw_5_3 tw_1_5 tw_5_4 hdX6_in rfl rfl ⟨Nat.le_of_ble_eq_true rfl, Nat.le_of_ble_eq_true rfl⟩ rfl hl.1 (rest := []) rfl (Nat.le_of_ble_eq_true rfl) dX6_feed_3 ⟨Nat.zero_le _, Nat.zero_le _⟩) ?_
  refine lv_if_ne (tgt := 16) hx hb dX6_feed_6 (by decide) (fun c_24 => ?_) (fun c_24 => ?_)
  · have hf := if_n hf c_24
    refine lv_aload_n hx hb dX6_feed_16 rfl (lv_at hl 0 rfl) ?_
    refine gf_RX6_146 C hE hH 0 rfl rfl dX6_feed_17 ?_
    refine lv_iload_n hx hb dX6_feed_20 rfl (lv_at hl 2 rfl) ?_
    refine lv_iadd hx hb dX6_feed_21 ?_
    refine lv_bipush (v := 120) hx hb dX6_feed_22 (by decide) ?_
    refine lv_icmp_le (tgt := 34) hx hb dX6_feed_24 (by decide) (fun c_25 => ?_) (fun c_25 => ?_)
    · have hf := if_p hf c_25
      refine lv_iload_n hx hb dX6_feed_34 rfl (lv_at hl 2 rfl) ?_
      refine lv_iconst (v := 1) hx hb dX6_feed_35 (by decide) ?_
      refine lv_isub hx hb dX6_feed_36 ?_
      refine lv_topi (fun v_26 ev_26 => ?_)
      have hf := letb_at hf v_26 ev_26
      refine lv_istore_n (lv' := [(3, .int v_26), (0, .ref (ad 0)), (1, .int x1), (2, .int x2)]) hx hb dX6_feed_37 rfl hl (by decide) rfl (fun ls hl => ?_)
      exact lp_38 _ x1 v_26 G _ _ ls hf hH (lv_sub hl [1, 2, 0] rfl)
    · have hf := if_n hf c_25
      refine lv_aload_n hx hb dX6_feed_27 rfl (lv_at hl 0 rfl) ?_
      refine lv_ldc hx hb hown (hT _ tw_8_9) dX6_feed_28 ?_
      obtain ⟨r_27, G_28, hc_29, hf⟩ := bind2_inv hf
      refine aftI (runV C hE hA hH [0, 1, 2, 3, 4, 5, 6, 7, 8, 9, 10, 11] nC_M_M_0_11 (sC_M_M_0_11 g ad G J) (kX6_finds l g ad _ G J (-1000000002 : Int32) r_27 G_28  hc_29) tw_5_9 tw_5_10 tw_5_11 tw_1_5 tw_5_12 hdX6_finds 0 rfl rfl rfl rfl ⟨Nat.le_of_ble_eq_true rfl, Nat.le_of_ble_eq_true rfl⟩ rfl hl.1 (rest := []) rfl (Nat.le_of_ble_eq_true rfl) dX6_feed_30 ⟨Nat.zero_le _, Nat.zero_le _⟩) hA hH [0, 1, 2, 3, 4, 5, 6, 7, 8, 9, 10, 11] [] (sC_M_M_0_11 g ad G J) (sR_M_M_0_11 g ad G J) nR_M_M_0_11 dj_M_M_0_11 [0, 1, 2, 3, 4, 5, 6, 7, 8, 9, 10, 11] nP_M_M_0_11 (sP_M_M_0_11 g ad G J G_28 J) (fun H locs hH => ?_)
      have hf := Option.some.inj hf
      obtain ⟨h1, h2⟩ := Prod.mk.inj hf
      subst h1
      subst h2
      exact retI C hH rfl dX6_feed_33
  · have hf := if_p hf c_24
    refine lv_aload_n hx hb dX6_feed_9 rfl (lv_at hl 0 rfl) ?_
    refine lv_ldc hx hb hown (hT _ tw_5_1) dX6_feed_10 ?_
    obtain ⟨r_30, G_31, hc_32, hf⟩ := bind2_inv hf
    refine aftI (runV C hE hA hH [0, 1, 2, 3, 4, 5, 6, 7, 8, 9, 10, 11] nC_M_M_0_11 (sC_M_M_0_11 g ad G J) (kX6_finds l g ad _ G J (-1000000001 : Int32) r_30 G_31  hc_32) tw_5_9 tw_5_10 tw_5_11 tw_1_5 tw_5_12 hdX6_finds 0 rfl rfl rfl rfl ⟨Nat.le_of_ble_eq_true rfl, Nat.le_of_ble_eq_true rfl⟩ rfl hl.1 (rest := []) rfl (Nat.le_of_ble_eq_true rfl) dX6_feed_12 ⟨Nat.zero_le _, Nat.zero_le _⟩) hA hH [0, 1, 2, 3, 4, 5, 6, 7, 8, 9, 10, 11] [] (sC_M_M_0_11 g ad G J) (sR_M_M_0_11 g ad G J) nR_M_M_0_11 dj_M_M_0_11 [0, 1, 2, 3, 4, 5, 6, 7, 8, 9, 10, 11] nP_M_M_0_11 (sP_M_M_0_11 g ad G J G_31 J) (fun H locs hH => ?_)
    have hf := Option.some.inj hf
    obtain ⟨h1, h2⟩ := Prod.mk.inj hf
    subst h1
    subst h2
    exact retI C hH rfl dX6_feed_15
def fX6_wipe (G : M2) (J : J2) : Option (Int32 × M2) := letb (G 0 2) (fun v_3 : Int32 => letb (st2 G 0 (upd (G 0) 2 (0 : Int32))) (fun G_4 : M2 => some (v_3, G_4)))
def rmX6_wipe : Room := { frames := 0, cells := 0, slots := 0, locals := 0 }
theorem hdX6_wipe : yX6_wipe.cls = yX6_wipe.cls ∧ yX6_wipe.cls ≠ "java/lang/invoke/MethodHandle" ∧ yX6_wipe.cls ≠ "java/lang/invoke/VarHandle" ∧ (parseMethodDescriptor yX6_wipe.desc).map (fun d => d.parameters.length) = some 0 := by decide +kernel
set_option maxHeartbeats 4000000 in
set_option maxRecDepth 100000 in
theorem kX6_wipe (l : Launch) (g : Gl) (ad : Nat → Nat) (sz : Nat) (G : M2) (J : J2)  (r : Int32) (G' : M2)  (hf : fX6_wipe G J = some (r, G')) : MetI l yX6_wipe (Cond.code yX6_wipe cX6_wipe 2 (some .int) :: wsL_law) rmX6_wipe [.ref (ad 0)] g (wM g ad G J) sz r (wM g ad G' J) := by
  refine openI (by decide +kernel) (Nat.le_of_ble_eq_true rfl) ?_
  intro p e s m args below meth c A C hE hA hH ls hl
  have hl : lv_has ls 2 [(0, .ref (ad 0))] := hl
  have C : Cx p s m args meth c cX6_wipe 2 (some .int) RX6 := C
  obtain ⟨hx, hb, hml, hown, hT, hr, hlk⟩ := id C
  rw [fX6_wipe] at hf
  refine lv_aload_n hx hb dX6_wipe_0 rfl (lv_at hl 0 rfl) ?_
  refine gf_RX6_146 C hE hH 0 rfl rfl dX6_wipe_1 ?_
  refine lv_topi (fun v_3 ev_3 => ?_)
  have hf := letb_at hf v_3 ev_3
  refine lv_istore_n (lv' := [(1, .int v_3), (0, .ref (ad 0))]) hx hb dX6_wipe_4 rfl hl (by decide) rfl (fun ls hl => ?_)
  refine lv_aload_n hx hb dX6_wipe_5 rfl (lv_at hl 1 rfl) ?_
  refine lv_iconst (v := 0) hx hb dX6_wipe_6 (by decide) ?_
  refine pf_RX6_146 C hE hH 0 rfl rfl rfl (Nat.le_of_ble_eq_true rfl) (fun q : M2 => wM g ad q J) (st2 G 0 (upd (G 0) 2 (0 : Int32))) rfl dX6_wipe_7 (fun G_4 eG_4 H locs hH => ?_)
  have hf := letb_at hf G_4 eG_4
  refine lv_iload_n hx hb dX6_wipe_10 rfl (lv_at hl 0 rfl) ?_
  have hf := Option.some.inj hf
  obtain ⟨h1, h2⟩ := Prod.mk.inj hf
  subst h1
  subst h2
  exact retI C hH rfl dX6_wipe_11
def fX6_byteAt_c18  (z0 : Int32) (G : M2) (J : J2) : Option (Int32) := some z0
def fX6_byteAt (x1 : Int32) (G : M2) (J : J2) : Option (Int32) := (if (G 0 2) ≤ x1 then fX6_byteAt_c18  (-1 : Int32) G J else grd (inb x1 120) (fX6_byteAt_c18  (G 5 x1.toNatClampNeg) G J))
def rmX6_byteAt : Room := { frames := 0, cells := 0, slots := 0, locals := 0 }
theorem hdX6_byteAt : yX6_byteAt.cls = yX6_byteAt.cls ∧ yX6_byteAt.cls ≠ "java/lang/invoke/MethodHandle" ∧ yX6_byteAt.cls ≠ "java/lang/invoke/VarHandle" ∧ (parseMethodDescriptor yX6_byteAt.desc).map (fun d => d.parameters.length) = some 1 := by decide +kernel
set_option maxHeartbeats 4000000 in
set_option maxRecDepth 100000 in
theorem kX6_byteAt (l : Launch) (g : Gl) (ad : Nat → Nat) (sz : Nat) (G : M2) (J : J2) (x1 : Int32) (r : Int32)  (hf : fX6_byteAt x1 G J = some r) : MetPI l yX6_byteAt (Cond.code yX6_byteAt cX6_byteAt 2 (some .int) :: wsL_law) rmX6_byteAt [.ref (ad 0), .int x1] g (wM g ad G J) sz r := by
  refine openPI (by decide +kernel) (Nat.le_of_ble_eq_true rfl) ?_
  intro p e s m args below meth c A C hE hA hH ls hl
  have hl : lv_has ls 2 [(0, .ref (ad 0)), (1, .int x1)] := hl
  have C : Cx p s m args meth c cX6_byteAt 2 (some .int) RX6 := C
  obtain ⟨hx, hb, hml, hown, hT, hr, hlk⟩ := id C
  rw [fX6_byteAt] at hf
  have j_18 : ∀ (z0 : Int32) (ls : Array Slot), fX6_byteAt_c18  z0 G J = some r → lv_has ls 2 [] → W p l e rmX6_byteAt s m args below meth c s.heap [] 0 0 (QPI below args s r) (F0 m 18 ls [.int z0]) := by
    intro z0  ls hf hl
    rw [fX6_byteAt_c18] at hf
    have h1 := Option.some.inj hf
    subst h1
    exact retPI C rfl dX6_byteAt_18
  refine lv_iload_n hx hb dX6_byteAt_0 rfl (lv_at hl 1 rfl) ?_
  refine lv_aload_n hx hb dX6_byteAt_1 rfl (lv_at hl 0 rfl) ?_
  refine gf_RX6_146 C hE hH 0 rfl rfl dX6_byteAt_2 ?_
  refine lv_icmp_ge (tgt := 17) hx hb dX6_byteAt_5 (by decide) (fun c_3 => ?_) (fun c_3 => ?_)
  · have hf := if_p hf c_3
    refine lv_iconst (v := (-1)) hx hb dX6_byteAt_17 (by decide) ?_
    exact j_18 (-1 : Int32) ls hf (lv_sub hl [] rfl)
  · have hf := if_n hf c_3
    refine lv_aload_n hx hb dX6_byteAt_8 rfl (lv_at hl 0 rfl) ?_
    refine gf_RX6_22 C hE hH 0 rfl rfl dX6_byteAt_9 ?_
    refine lv_iload_n hx hb dX6_byteAt_12 rfl (lv_at hl 1 rfl) ?_
    obtain ⟨hi_4, hf⟩ := grd_inv hf
    refine xiald C hE hH 5 rfl hi_4 dX6_byteAt_13 ?_
    refine lv_goto (tgt := 18) hx hb dX6_byteAt_14 (by decide) ?_
    exact j_18 (G 5 x1.toNatClampNeg) ls hf (lv_sub hl [] rfl)
def fX6_isLetter (x1 : Int32) : Option (Int32) := (fX6_in x1 (97 : Int32) (122 : Int32)).bind (fun (r_3 : Int32) => grd (isB r_3) (some r_3))
def rmX6_isLetter : Room := { frames := 1, cells := 0, slots := 0, locals := 22 }
theorem hdX6_isLetter : yX6_isLetter.cls = yX6_isLetter.cls ∧ yX6_isLetter.cls ≠ "java/lang/invoke/MethodHandle" ∧ yX6_isLetter.cls ≠ "java/lang/invoke/VarHandle" ∧ (parseMethodDescriptor yX6_isLetter.desc).map (fun d => d.parameters.length) = some 1 := by decide +kernel
set_option maxHeartbeats 4000000 in
set_option maxRecDepth 100000 in
theorem kX6_isLetter (l : Launch) (g : Gl) (ad : Nat → Nat) (sz : Nat)  (x1 : Int32) (r : Int32)  (hf : fX6_isLetter x1 = some r) : MetPI l yX6_isLetter (Cond.code yX6_isLetter cX6_isLetter 1 (some .boolean) :: wsL_law) rmX6_isLetter [.int x1] g ([]) sz r := by
  refine openPI (by decide +kernel) (Nat.le_of_ble_eq_true rfl) ?_
  intro p e s m args below meth c A C hE hA hH ls hl
  have hl : lv_has ls 1 [(0, .int x1)] := hl
  have C : Cx p s m args meth c cX6_isLetter 1 (some .boolean) RX6 := C
  obtain ⟨hx, hb, hml, hown, hT, hr, hlk⟩ := id C
  rw [fX6_isLetter] at hf
  refine lv_iload_n hx hb dX6_isLetter_0 rfl (lv_at hl 0 rfl) ?_
  refine lv_bipush (v := 97) hx hb dX6_isLetter_1 (by decide) ?_
  refine lv_bipush (v := 122) hx hb dX6_isLetter_3 (by decide) ?_
  obtain ⟨r_3, hc_4, hf⟩ := bind_inv hf
  refine aftPI (runS C hE hA hH [] rfl rfl (kX6_in l g ad _ x1 (97 : Int32) (122 : Int32) r_3  hc_4) tw_5_2 tw_5_3 tw_1_5 tw_5_4 hdX6_in rfl rfl ⟨Nat.le_of_ble_eq_true rfl, Nat.le_of_ble_eq_true rfl⟩ rfl hl.1 (rest := []) rfl (Nat.le_of_ble_eq_true rfl) dX6_isLetter_5 ⟨Nat.zero_le _, Nat.zero_le _⟩) ?_
  obtain ⟨hz, hf⟩ := grd_inv hf
  have h1 := Option.some.inj hf
  subst h1
  exact retPI C (isB_nar hz) dX6_isLetter_8
def fX6_isDigit (x1 : Int32) : Option (Int32) := (fX6_in x1 (48 : Int32) (57 : Int32)).bind (fun (r_3 : Int32) => grd (isB r_3) (some r_3))
def rmX6_isDigit : Room := { frames := 1, cells := 0, slots := 0, locals := 22 }
theorem hdX6_isDigit : yX6_isDigit.cls = yX6_isDigit.cls ∧ yX6_isDigit.cls ≠ "java/lang/invoke/MethodHandle" ∧ yX6_isDigit.cls ≠ "java/lang/invoke/VarHandle" ∧ (parseMethodDescriptor yX6_isDigit.desc).map (fun d => d.parameters.length) = some 1 := by decide +kernel
set_option maxHeartbeats 4000000 in
set_option maxRecDepth 100000 in
theorem kX6_isDigit (l : Launch) (g : Gl) (ad : Nat → Nat) (sz : Nat)  (x1 : Int32) (r : Int32)  (hf : fX6_isDigit x1 = some r) : MetPI l yX6_isDigit (Cond.code yX6_isDigit cX6_isDigit 1 (some .boolean) :: wsL_law) rmX6_isDigit [.int x1] g ([]) sz r := by
  refine openPI (by decide +kernel) (Nat.le_of_ble_eq_true rfl) ?_
  intro p e s m args below meth c A C hE hA hH ls hl
  have hl : lv_has ls 1 [(0, .int x1)] := hl
  have C : Cx p s m args meth c cX6_isDigit 1 (some .boolean) RX6 := C
  obtain ⟨hx, hb, hml, hown, hT, hr, hlk⟩ := id C
  rw [fX6_isDigit] at hf
  refine lv_iload_n hx hb dX6_isDigit_0 rfl (lv_at hl 0 rfl) ?_
  refine lv_bipush (v := 48) hx hb dX6_isDigit_1 (by decide) ?_
  refine lv_bipush (v := 57) hx hb dX6_isDigit_3 (by decide) ?_
  obtain ⟨r_3, hc_4, hf⟩ := bind_inv hf
  refine aftPI (runS C hE hA hH [] rfl rfl (kX6_in l g ad _ x1 (48 : Int32) (57 : Int32) r_3  hc_4) tw_5_2 tw_5_3 tw_1_5 tw_5_4 hdX6_in rfl rfl ⟨Nat.le_of_ble_eq_true rfl, Nat.le_of_ble_eq_true rfl⟩ rfl hl.1 (rest := []) rfl (Nat.le_of_ble_eq_true rfl) dX6_isDigit_5 ⟨Nat.zero_le _, Nat.zero_le _⟩) ?_
  obtain ⟨hz, hf⟩ := grd_inv hf
  have h1 := Option.some.inj hf
  subst h1
  exact retPI C (isB_nar hz) dX6_isDigit_8
def fX6_advance_c281  (G : M2) (J : J2) : Option (M2 × J2) := some (G, J)
def fX6_advance_c265 (k_207 : M2 → J2 → Option (M2 × J2)) (z0 : Int32) (G : M2) (J : J2) : Option (M2 × J2) := letb (st2 G 0 (upd (G 0) 6 z0)) (fun G_44 : M2 => letb (st2 G_44 0 (upd (G_44 0) 5 ((G_44 0 5) + (1 : Int32)))) (fun G_45 : M2 => k_207 G_45 J))
def fX6_advance_c207  : Nat → M2 → J2 → Option (M2 × J2)
  | 0, _, _ => none
  | n + 1, G, J => (if (G 0 3) = (2 : Int32) then (fX6_byteAt (G 0 5) G J).bind (fun (r_47 : Int32) => (fX6_isDigit r_47).bind (fun (r_49 : Int32) => (if r_49 = 0 then fX6_advance_c281  G J else (if (G 0 6) ≤ (999 : Int32) then (fX6_byteAt (G 0 5) G J).bind (fun (r_53 : Int32) => fX6_advance_c265 (fX6_advance_c207 n) ((((10 : Int32) * (G 0 6)) + r_53) - (48 : Int32)) G J) else fX6_advance_c265 (fX6_advance_c207 n) (10000 : Int32) G J)))) else fX6_advance_c281  G J)
def fX6_advance_c191 (k_126 : M2 → J2 → Option (M2 × J2)) (z0 : Int64) (G : M2) (J : J2) : Option (M2 × J2) := letb (st2 J 0 (vp_updL (J 0) 0 z0)) (fun J_55 : J2 => letb (st2 G 0 (upd (G 0) 5 ((G 0 5) + (1 : Int32)))) (fun G_56 : M2 => k_126 G_56 J_55))
def fX6_advance_c126  : Nat → M2 → J2 → Option (M2 × J2)
  | 0, _, _ => none
  | n + 1, G, J => (if (G 0 3) = (1 : Int32) then (fX6_byteAt (G 0 5) G J).bind (fun (r_58 : Int32) => (fX6_isLetter r_58).bind (fun (r_60 : Int32) => (if r_60 = 0 then fX6_advance_c207  FU G J else (if (12 : Int32) ≤ ((G 0 5) - (G 0 4)) then fX6_advance_c191 (fX6_advance_c126 n) (-1 : Int64) G J else (fX6_byteAt (G 0 5) G J).bind (fun (r_64 : Int32) => fX6_advance_c191 (fX6_advance_c126 n) ((((27 : Int64) * (J 0 0)) + (r_64.toInt64)) - (96 : Int64)) G J))))) else fX6_advance_c207  FU G J)
def fX6_advance_c105  (z0 : Int32) (G : M2) (J : J2) : Option (M2 × J2) := letb (st2 G 0 (upd (G 0) 6 z0)) (fun G_66 : M2 => (if (G_66 0 3) = (3 : Int32) then letb (st2 G_66 0 (upd (G_66 0) 5 ((G_66 0 5) + (1 : Int32)))) (fun G_68 : M2 => fX6_advance_c126  FU G_68 J) else fX6_advance_c126  FU G_66 J))
def fX6_advance_c83  (y1 : Int32) (z0 : Int32) (G : M2) (J : J2) : Option (M2 × J2) := letb (st2 G 0 (upd (G 0) 3 z0)) (fun G_69 : M2 => letb (st2 J 0 (vp_updL (J 0) 0 (0 : Int64))) (fun J_70 : J2 => (if (G_69 0 3) = (2 : Int32) then fX6_advance_c105  (0 : Int32) G_69 J_70 else fX6_advance_c105  y1 G_69 J_70)))
def fX6_advance_c34  (G : M2) (J : J2) : Option (M2 × J2) := letb (st2 G 0 (upd (G 0) 5 (G 0 4))) (fun G_72 : M2 => (fX6_byteAt (G_72 0 4) G_72 J).bind (fun (r_73 : Int32) => (if 0 ≤ r_73 then (fX6_isLetter r_73).bind (fun (r_76 : Int32) => (if r_76 = 0 then (fX6_isDigit r_73).bind (fun (r_79 : Int32) => (if r_79 = 0 then fX6_advance_c83  r_73 (3 : Int32) G_72 J else fX6_advance_c83  r_73 (2 : Int32) G_72 J)) else fX6_advance_c83  r_73 (1 : Int32) G_72 J)) else fX6_advance_c83  r_73 (0 : Int32) G_72 J)))
def fX6_advance_c8  : Nat → M2 → J2 → Option (M2 × J2)
  | 0, _, _ => none
  | n + 1, G, J => (fX6_byteAt (G 0 4) G J).bind (fun (r_82 : Int32) => (if r_82 = (32 : Int32) then letb (st2 G 0 (upd (G 0) 4 ((G 0 4) + (1 : Int32)))) (fun G_85 : M2 => fX6_advance_c8 n G_85 J) else fX6_advance_c34  G J))
def fX6_advance (G : M2) (J : J2) : Option (M2 × J2) := letb (st2 G 0 (upd (G 0) 4 (G 0 5))) (fun G_86 : M2 => fX6_advance_c8  FU G_86 J)
def rmX6_advance : Room := { frames := 2, cells := 0, slots := 0, locals := 42 }
theorem hdX6_advance : yX6_advance.cls = yX6_advance.cls ∧ yX6_advance.cls ≠ "java/lang/invoke/MethodHandle" ∧ yX6_advance.cls ≠ "java/lang/invoke/VarHandle" ∧ (parseMethodDescriptor yX6_advance.desc).map (fun d => d.parameters.length) = some 0 := by decide +kernel
set_option maxHeartbeats 4000000 in
set_option maxRecDepth 100000 in
theorem kX6_advance (l : Launch) (g : Gl) (ad : Nat → Nat) (sz : Nat) (G : M2) (J : J2)  (G' : M2) (J' : J2)  (hf : fX6_advance G J = some (G', J')) : MetV l yX6_advance (Cond.code yX6_advance cX6_advance 2 none :: wsL_law) rmX6_advance [.ref (ad 0)] g (wM g ad G J) sz (wM g ad G' J') := by
  refine openV (by decide +kernel) (Nat.le_of_ble_eq_true rfl) ?_
  intro p e s m args below meth c A C hE hA hH ls hl
  have hl : lv_has ls 2 [(0, .ref (ad 0))] := hl
  have C : Cx p s m args meth c cX6_advance 2 none RX6 := C
  obtain ⟨hx, hb, hml, hown, hT, hr, hlk⟩ := id C
  rw [fX6_advance] at hf
  have lp_8 : ∀ (n_8 : Nat) (G : M2) (J : J2) (H : Heap) (locs : List Loc) (ls : Array Slot), fX6_advance_c8  n_8 G J = some (G', J') → Hp g A s H locs (wM g ad G J) → lv_has ls 2 [(0, .ref (ad 0))] → W p l e rmX6_advance s m args below meth c H locs 0 0 (QV g A below args s (wM g ad G' J')) (F0 m 8 ls []) := by
    intro n_8
    induction n_8 with
    | zero =>
      intro G J H locs  ls hf hH hl
      rw [fX6_advance_c8] at hf
      cases hf
    | succ n_8 ih_8 =>
      intro G J H locs  ls hf hH hl
      rw [fX6_advance_c8] at hf
      have j_34 : ∀ (G : M2) (J : J2) (H : Heap) (locs : List Loc) (ls : Array Slot), fX6_advance_c34  G J = some (G', J') → Hp g A s H locs (wM g ad G J) → lv_has ls 2 [(0, .ref (ad 0))] → W p l e rmX6_advance s m args below meth c H locs 0 0 (QV g A below args s (wM g ad G' J')) (F0 m 34 ls []) := by
        intro G J H locs  ls hf hH hl
        rw [fX6_advance_c34] at hf
        have j_83 : ∀ (y1 : Int32) (z0 : Int32) (G : M2) (J : J2) (H : Heap) (locs : List Loc) (ls : Array Slot), fX6_advance_c83  y1 z0 G J = some (G', J') → Hp g A s H locs (wM g ad G J) → lv_has ls 2 [(0, .ref (ad 0)), (1, .int y1)] → W p l e rmX6_advance s m args below meth c H locs 0 0 (QV g A below args s (wM g ad G' J')) (F0 m 83 ls [.int z0, .ref (ad 0)]) := by
          intro y1 z0 G J H locs  ls hf hH hl
          rw [fX6_advance_c83] at hf
          have j_105 : ∀ (z0 : Int32) (G : M2) (J : J2) (H : Heap) (locs : List Loc) (ls : Array Slot), fX6_advance_c105  z0 G J = some (G', J') → Hp g A s H locs (wM g ad G J) → lv_has ls 2 [(0, .ref (ad 0))] → W p l e rmX6_advance s m args below meth c H locs 0 0 (QV g A below args s (wM g ad G' J')) (F0 m 105 ls [.int z0, .ref (ad 0)]) := by
            intro z0 G J H locs  ls hf hH hl
            rw [fX6_advance_c105] at hf
            have lp_126 : ∀ (n_126 : Nat) (G : M2) (J : J2) (H : Heap) (locs : List Loc) (ls : Array Slot), fX6_advance_c126  n_126 G J = some (G', J') → Hp g A s H locs (wM g ad G J) → lv_has ls 2 [(0, .ref (ad 0))] → W p l e rmX6_advance s m args below meth c H locs 0 0 (QV g A below args s (wM g ad G' J')) (F0 m 126 ls []) := by
              intro n_126
              induction n_126 with
              | zero =>
                intro G J H locs  ls hf hH hl
                rw [fX6_advance_c126] at hf
                cases hf
              | succ n_126 ih_126 =>
                intro G J H locs  ls hf hH hl
                rw [fX6_advance_c126] at hf
                have lp_207 : ∀ (n_207 : Nat) (G : M2) (J : J2) (H : Heap) (locs : List Loc) (ls : Array Slot), fX6_advance_c207  n_207 G J = some (G', J') → Hp g A s H locs (wM g ad G J) → lv_has ls 2 [(0, .ref (ad 0))] → W p l e rmX6_advance s m args below meth c H locs 0 0 (QV g A below args s (wM g ad G' J')) (F0 m 207 ls []) := by
                  intro n_207
                  induction n_207 with
                  | zero =>
                    intro G J H locs  ls hf hH hl
                    rw [fX6_advance_c207] at hf
                    cases hf
                  | succ n_207 ih_207 =>
                    intro G J H locs  ls hf hH hl
                    rw [fX6_advance_c207] at hf
                    have j_281 : ∀ (G : M2) (J : J2) (H : Heap) (locs : List Loc) (ls : Array Slot), fX6_advance_c281  G J = some (G', J') → Hp g A s H locs (wM g ad G J) → lv_has ls 2 [] → W p l e rmX6_advance s m args below meth c H locs 0 0 (QV g A below args s (wM g ad G' J')) (F0 m 281 ls []) := by
                      intro G J H locs  ls hf hH hl
                      rw [fX6_advance_c281] at hf
                      have hf := Option.some.inj hf
                      obtain ⟨h1, h2⟩ := Prod.mk.inj hf
                      subst h1
                      subst h2
                      exact retV C hH dX6_advance_281
                    have j_265 : ∀ (z0 : Int32) (G : M2) (J : J2) (H : Heap) (locs : List Loc) (ls : Array Slot), fX6_advance_c265 (fX6_advance_c207 n_207) z0 G J = some (G', J') → Hp g A s H locs (wM g ad G J) → lv_has ls 2 [(0, .ref (ad 0))] → W p l e rmX6_advance s m args below meth c H locs 0 0 (QV g A below args s (wM g ad G' J')) (F0 m 265 ls [.int z0, .ref (ad 0)]) := by
                      intro z0 G J H locs  ls hf hH hl
                      rw [fX6_advance_c265] at hf
                      refine pf_RX6_171 C hE hH 0 rfl rfl rfl (Nat.le_of_ble_eq_true rfl) (fun q : M2 => wM g ad q J) (st2 G 0 (upd (G 0) 6 z0)) rfl dX6_advance_265 (fun G_44 eG_44 H locs hH => ?_)
                      have hf := letb_at hf G_44 eG_44
                      refine lv_aload_n hx hb dX6_advance_268 rfl (lv_at hl 0 rfl) ?_
                      refine lv_dup hx hb dX6_advance_269 rfl ?_
                      refine gf_RX6_149 C hE hH 0 rfl rfl dX6_advance_270 ?_
                      refine lv_iconst (v := 1) hx hb dX6_advance_273 (by decide) ?_
                      refine lv_iadd hx hb dX6_advance_274 ?_
                      refine pf_RX6_149 C hE hH 0 rfl rfl rfl (Nat.le_of_ble_eq_true rfl) (fun q : M2 => wM g ad q J) (st2 G_44 0 (upd (G_44 0) 5 ((G_44 0 5) + (1 : Int32)))) rfl dX6_advance_275 (fun G_45 eG_45 H locs hH => ?_)
                      have hf := letb_at hf G_45 eG_45
                      refine lv_goto (tgt := 207) hx hb dX6_advance_278 (by decide) ?_
                      exact ih_207 G_45 J _ _ ls hf hH (lv_sub hl [0] rfl)
                    refine lv_aload_n hx hb dX6_advance_207 rfl (lv_at hl 0 rfl) ?_
                    refine gf_RX6_164 C hE hH 0 rfl rfl dX6_advance_208 ?_
                    refine lv_iconst (v := 2) hx hb dX6_advance_211 (by decide) ?_
                    refine lv_icmp_ne (tgt := 281) hx hb dX6_advance_212 (by decide) (fun c_46 => ?_) (fun c_46 => ?_)
                    · have hf := if_n hf c_46
                      exact j_281 G J _ _ ls hf hH (lv_sub hl [] rfl)
                    · have hf := if_p hf c_46
                      refine lv_aload_n hx hb dX6_advance_215 rfl (lv_at hl 0 rfl) ?_
                      refine lv_aload_n hx hb dX6_advance_216 rfl (lv_at hl 0 rfl) ?_
                      refine gf_RX6_149 C hE hH 0 rfl rfl dX6_advance_217 ?_
                      obtain ⟨r_47, hc_48, hf⟩ := bind_inv hf
                      refine aftPI (runV C hE hA hH [0, 1, 2, 3, 4, 5, 6, 7, 8, 9, 10, 11] nC_M_M_0_11 (sC_M_M_0_11 g ad G J) (kX6_byteAt l g ad _ G J (G 0 5) r_47  hc_48) tw_31_22 tw_31_23 tw_32_0 tw_1_5 tw_32_1 hdX6_byteAt 0 rfl rfl rfl rfl ⟨Nat.le_of_ble_eq_true rfl, Nat.le_of_ble_eq_true rfl⟩ rfl hl.1 (rest := []) rfl (Nat.le_of_ble_eq_true rfl) dX6_advance_220 ⟨Nat.zero_le _, Nat.zero_le _⟩) ?_
                      obtain ⟨r_49, hc_50, hf⟩ := bind_inv hf
                      refine aftPI (runS C hE hA hH [] rfl rfl (kX6_isDigit l g ad _ r_47 r_49  hc_50) tw_32_5 tw_32_6 tw_1_5 tw_32_7 hdX6_isDigit rfl rfl ⟨Nat.le_of_ble_eq_true rfl, Nat.le_of_ble_eq_true rfl⟩ rfl hl.1 (rest := []) rfl (Nat.le_of_ble_eq_true rfl) dX6_advance_223 ⟨Nat.zero_le _, Nat.zero_le _⟩) ?_
                      refine lv_if_eq (tgt := 281) hx hb dX6_advance_226 (by decide) (fun c_51 => ?_) (fun c_51 => ?_)
                      · have hf := if_p hf c_51
                        exact j_281 G J _ _ ls hf hH (lv_sub hl [] rfl)
                      · have hf := if_n hf c_51
                        refine lv_aload_n hx hb dX6_advance_229 rfl (lv_at hl 0 rfl) ?_
                        refine lv_aload_n hx hb dX6_advance_230 rfl (lv_at hl 0 rfl) ?_
                        refine gf_RX6_171 C hE hH 0 rfl rfl dX6_advance_231 ?_
                        refine lv_sipush (v := 999) hx hb dX6_advance_234 (by decide) ?_
                        refine lv_icmp_le (tgt := 246) hx hb dX6_advance_237 (by decide) (fun c_52 => ?_) (fun c_52 => ?_)
                        · have hf := if_p hf c_52
                          refine lv_bipush (v := 10) hx hb dX6_advance_246 (by decide) ?_
                          refine lv_aload_n hx hb dX6_advance_248 rfl (lv_at hl 0 rfl) ?_
                          refine gf_RX6_171 C hE hH 0 rfl rfl dX6_advance_249 ?_
                          refine lv_imul hx hb dX6_advance_252 ?_
                          refine lv_aload_n hx hb dX6_advance_253 rfl (lv_at hl 0 rfl) ?_
                          refine lv_aload_n hx hb dX6_advance_254 rfl (lv_at hl 0 rfl) ?_
                          refine gf_RX6_149 C hE hH 0 rfl rfl dX6_advance_255 ?_
                          obtain ⟨r_53, hc_54, hf⟩ := bind_inv hf
                          refine aftPI (runV C hE hA hH [0, 1, 2, 3, 4, 5, 6, 7, 8, 9, 10, 11] nC_M_M_0_11 (sC_M_M_0_11 g ad G J) (kX6_byteAt l g ad _ G J (G 0 5) r_53  hc_54) tw_31_22 tw_31_23 tw_32_0 tw_1_5 tw_32_1 hdX6_byteAt 0 rfl rfl rfl rfl ⟨Nat.le_of_ble_eq_true rfl, Nat.le_of_ble_eq_true rfl⟩ rfl hl.1 (rest := [.int ((10 : Int32) * (G 0 6)), .ref (ad 0)]) rfl (Nat.le_of_ble_eq_true rfl) dX6_advance_258 ⟨Nat.zero_le _, Nat.zero_le _⟩) ?_
                          refine lv_iadd hx hb dX6_advance_261 ?_
                          refine lv_bipush (v := 48) hx hb dX6_advance_262 (by decide) ?_
                          refine lv_isub hx hb dX6_advance_264 ?_
                          exact j_265 ((((10 : Int32) * (G 0 6)) + r_53) - (48 : Int32)) G J _ _ ls hf hH (lv_sub hl [0] rfl)
                        · have hf := if_n hf c_52
                          refine lv_sipush (v := 10000) hx hb dX6_advance_240 (by decide) ?_
                          refine lv_goto (tgt := 265) hx hb dX6_advance_243 (by decide) ?_
                          exact j_265 (10000 : Int32) G J _ _ ls hf hH (lv_sub hl [0] rfl)
                have j_191 : ∀ (z0 : Int64) (G : M2) (J : J2) (H : Heap) (locs : List Loc) (ls : Array Slot), fX6_advance_c191 (fX6_advance_c126 n_126) z0 G J = some (G', J') → Hp g A s H locs (wM g ad G J) → lv_has ls 2 [(0, .ref (ad 0))] → W p l e rmX6_advance s m args below meth c H locs 0 0 (QV g A below args s (wM g ad G' J')) (F0 m 191 ls [.long z0, .ref (ad 0)]) := by
                  intro z0 G J H locs  ls hf hH hl
                  rw [fX6_advance_c191] at hf
                  refine pf_RX6_167 C hE hH 0 rfl rfl rfl (Nat.le_of_ble_eq_true rfl) (fun q : J2 => wM g ad G q) (st2 J 0 (vp_updL (J 0) 0 z0)) rfl dX6_advance_191 (fun J_55 eJ_55 H locs hH => ?_)
                  have hf := letb_at hf J_55 eJ_55
                  refine lv_aload_n hx hb dX6_advance_194 rfl (lv_at hl 0 rfl) ?_
                  refine lv_dup hx hb dX6_advance_195 rfl ?_
                  refine gf_RX6_149 C hE hH 0 rfl rfl dX6_advance_196 ?_
                  refine lv_iconst (v := 1) hx hb dX6_advance_199 (by decide) ?_
                  refine lv_iadd hx hb dX6_advance_200 ?_
                  refine pf_RX6_149 C hE hH 0 rfl rfl rfl (Nat.le_of_ble_eq_true rfl) (fun q : M2 => wM g ad q J_55) (st2 G 0 (upd (G 0) 5 ((G 0 5) + (1 : Int32)))) rfl dX6_advance_201 (fun G_56 eG_56 H locs hH => ?_)
                  have hf := letb_at hf G_56 eG_56
                  refine lv_goto (tgt := 126) hx hb dX6_advance_204 (by decide) ?_
                  exact ih_126 G_56 J_55 _ _ ls hf hH (lv_sub hl [0] rfl)
                refine lv_aload_n hx hb dX6_advance_126 rfl (lv_at hl 0 rfl) ?_
                refine gf_RX6_164 C hE hH 0 rfl rfl dX6_advance_127 ?_
                refine lv_iconst (v := 1) hx hb dX6_advance_130 (by decide) ?_
                refine lv_icmp_ne (tgt := 207) hx hb dX6_advance_131 (by decide) (fun c_57 => ?_) (fun c_57 => ?_)
                · have hf := if_n hf c_57
                  exact lp_207 _ G J _ _ ls hf hH (lv_sub hl [0] rfl)
                · have hf := if_p hf c_57
                  refine lv_aload_n hx hb dX6_advance_134 rfl (lv_at hl 0 rfl) ?_
                  refine lv_aload_n hx hb dX6_advance_135 rfl (lv_at hl 0 rfl) ?_
                  refine gf_RX6_149 C hE hH 0 rfl rfl dX6_advance_136 ?_
                  obtain ⟨r_58, hc_59, hf⟩ := bind_inv hf
                  refine aftPI (runV C hE hA hH [0, 1, 2, 3, 4, 5, 6, 7, 8, 9, 10, 11] nC_M_M_0_11 (sC_M_M_0_11 g ad G J) (kX6_byteAt l g ad _ G J (G 0 5) r_58  hc_59) tw_31_22 tw_31_23 tw_32_0 tw_1_5 tw_32_1 hdX6_byteAt 0 rfl rfl rfl rfl ⟨Nat.le_of_ble_eq_true rfl, Nat.le_of_ble_eq_true rfl⟩ rfl hl.1 (rest := []) rfl (Nat.le_of_ble_eq_true rfl) dX6_advance_139 ⟨Nat.zero_le _, Nat.zero_le _⟩) ?_
                  obtain ⟨r_60, hc_61, hf⟩ := bind_inv hf
                  refine aftPI (runS C hE hA hH [] rfl rfl (kX6_isLetter l g ad _ r_58 r_60  hc_61) tw_32_2 tw_32_3 tw_1_5 tw_32_4 hdX6_isLetter rfl rfl ⟨Nat.le_of_ble_eq_true rfl, Nat.le_of_ble_eq_true rfl⟩ rfl hl.1 (rest := []) rfl (Nat.le_of_ble_eq_true rfl) dX6_advance_142 ⟨Nat.zero_le _, Nat.zero_le _⟩) ?_
                  refine lv_if_eq (tgt := 207) hx hb dX6_advance_145 (by decide) (fun c_62 => ?_) (fun c_62 => ?_)
                  · have hf := if_p hf c_62
                    exact lp_207 _ G J _ _ ls hf hH (lv_sub hl [0] rfl)
                  · have hf := if_n hf c_62
                    refine lv_aload_n hx hb dX6_advance_148 rfl (lv_at hl 0 rfl) ?_
                    refine lv_aload_n hx hb dX6_advance_149 rfl (lv_at hl 0 rfl) ?_
                    refine gf_RX6_149 C hE hH 0 rfl rfl dX6_advance_150 ?_
                    refine lv_aload_n hx hb dX6_advance_153 rfl (lv_at hl 0 rfl) ?_
                    refine gf_RX6_152 C hE hH 0 rfl rfl dX6_advance_154 ?_
                    refine lv_isub hx hb dX6_advance_157 ?_
                    refine lv_bipush (v := 12) hx hb dX6_advance_158 (by decide) ?_
                    refine lv_icmp_ge (tgt := 188) hx hb dX6_advance_160 (by decide) (fun c_63 => ?_) (fun c_63 => ?_)
                    · have hf := if_p hf c_63
                      refine W.ldc2 hx hb hown (hT _ tw_31_21) rfl dX6_advance_188 ?_
                      refine W.eq (g2 := F0 m 191 ls [.long (-1 : Int64), .ref (ad 0)]) rfl ?_
                      exact j_191 (-1 : Int64) G J _ _ ls hf hH (lv_sub hl [0] rfl)
                    · have hf := if_n hf c_63
                      refine W.ldc2 hx hb hown (hT _ tw_31_19) rfl dX6_advance_163 ?_
                      refine W.eq (g2 := F0 m 166 ls [.long (27 : Int64), .ref (ad 0)]) rfl ?_
                      refine lv_aload_n hx hb dX6_advance_166 rfl (lv_at hl 0 rfl) ?_
                      refine gf_RX6_167 C hE hH 0 rfl rfl dX6_advance_167 ?_
                      refine lv_lmul hx hb dX6_advance_170 ?_
                      refine lv_aload_n hx hb dX6_advance_171 rfl (lv_at hl 0 rfl) ?_
                      refine lv_aload_n hx hb dX6_advance_172 rfl (lv_at hl 0 rfl) ?_
                      refine gf_RX6_149 C hE hH 0 rfl rfl dX6_advance_173 ?_
                      obtain ⟨r_64, hc_65, hf⟩ := bind_inv hf
                      refine aftPI (runV C hE hA hH [0, 1, 2, 3, 4, 5, 6, 7, 8, 9, 10, 11] nC_M_M_0_11 (sC_M_M_0_11 g ad G J) (kX6_byteAt l g ad _ G J (G 0 5) r_64  hc_65) tw_31_22 tw_31_23 tw_32_0 tw_1_5 tw_32_1 hdX6_byteAt 0 rfl rfl rfl rfl ⟨Nat.le_of_ble_eq_true rfl, Nat.le_of_ble_eq_true rfl⟩ rfl hl.1 (rest := [.long ((27 : Int64) * (J 0 0)), .ref (ad 0)]) rfl (Nat.le_of_ble_eq_true rfl) dX6_advance_176 ⟨Nat.zero_le _, Nat.zero_le _⟩) ?_
                      refine lv_i2l hx hb dX6_advance_179 rfl ?_
                      refine lv_ladd hx hb dX6_advance_180 ?_
                      refine W.ldc2 hx hb hown (hT _ tw_31_20) rfl dX6_advance_181 ?_
                      refine W.eq (g2 := F0 m 184 ls [.long (96 : Int64), .long (((27 : Int64) * (J 0 0)) + (r_64.toInt64)), .ref (ad 0)]) rfl ?_
                      refine lv_lsub hx hb dX6_advance_184 ?_
                      refine lv_goto (tgt := 191) hx hb dX6_advance_185 (by decide) ?_
                      exact j_191 ((((27 : Int64) * (J 0 0)) + (r_64.toInt64)) - (96 : Int64)) G J _ _ ls hf hH (lv_sub hl [0] rfl)
            refine pf_RX6_171 C hE hH 0 rfl rfl rfl (Nat.le_of_ble_eq_true rfl) (fun q : M2 => wM g ad q J) (st2 G 0 (upd (G 0) 6 z0)) rfl dX6_advance_105 (fun G_66 eG_66 H locs hH => ?_)
            have hf := letb_at hf G_66 eG_66
            refine lv_aload_n hx hb dX6_advance_108 rfl (lv_at hl 0 rfl) ?_
            refine gf_RX6_164 C hE hH 0 rfl rfl dX6_advance_109 ?_
            refine lv_iconst (v := 3) hx hb dX6_advance_112 (by decide) ?_
            refine lv_icmp_ne (tgt := 126) hx hb dX6_advance_113 (by decide) (fun c_67 => ?_) (fun c_67 => ?_)
            · have hf := if_n hf c_67
              exact lp_126 _ G_66 J _ _ ls hf hH (lv_sub hl [0] rfl)
            · have hf := if_p hf c_67
              refine lv_aload_n hx hb dX6_advance_116 rfl (lv_at hl 0 rfl) ?_
              refine lv_dup hx hb dX6_advance_117 rfl ?_
              refine gf_RX6_149 C hE hH 0 rfl rfl dX6_advance_118 ?_
              refine lv_iconst (v := 1) hx hb dX6_advance_121 (by decide) ?_
              refine lv_iadd hx hb dX6_advance_122 ?_
              refine pf_RX6_149 C hE hH 0 rfl rfl rfl (Nat.le_of_ble_eq_true rfl) (fun q : M2 => wM g ad q J) (st2 G_66 0 (upd (G_66 0) 5 ((G_66 0 5) + (1 : Int32)))) rfl dX6_advance_123 (fun G_68 eG_68 H locs hH => ?_)
              have hf := letb_at hf G_68 eG_68
              exact lp_126 _ G_68 J _ _ ls hf hH (lv_sub hl [0] rfl)
          refine pf_RX6_164 C hE hH 0 rfl rfl rfl (Nat.le_of_ble_eq_true rfl) (fun q : M2 => wM g ad q J) (st2 G 0 (upd (G 0) 3 z0)) rfl dX6_advance_83 (fun G_69 eG_69 H locs hH => ?_)
          have hf := letb_at hf G_69 eG_69
          refine lv_aload_n hx hb dX6_advance_86 rfl (lv_at hl 0 rfl) ?_
          refine lv_lconst (v := 0) hx hb dX6_advance_87 (by decide) ?_
          refine pf_RX6_167 C hE hH 0 rfl rfl rfl (Nat.le_of_ble_eq_true rfl) (fun q : J2 => wM g ad G_69 q) (st2 J 0 (vp_updL (J 0) 0 (0 : Int64))) rfl dX6_advance_88 (fun J_70 eJ_70 H locs hH => ?_)
          have hf := letb_at hf J_70 eJ_70
          refine lv_aload_n hx hb dX6_advance_91 rfl (lv_at hl 0 rfl) ?_
          refine lv_aload_n hx hb dX6_advance_92 rfl (lv_at hl 0 rfl) ?_
          refine gf_RX6_164 C hE hH 0 rfl rfl dX6_advance_93 ?_
          refine lv_iconst (v := 2) hx hb dX6_advance_96 (by decide) ?_
          refine lv_icmp_ne (tgt := 104) hx hb dX6_advance_97 (by decide) (fun c_71 => ?_) (fun c_71 => ?_)
          · have hf := if_n hf c_71
            refine lv_iload_n hx hb dX6_advance_104 rfl (lv_at hl 1 rfl) ?_
            exact j_105 y1 G_69 J_70 _ _ ls hf hH (lv_sub hl [0] rfl)
          · have hf := if_p hf c_71
            refine lv_iconst (v := 0) hx hb dX6_advance_100 (by decide) ?_
            refine lv_goto (tgt := 105) hx hb dX6_advance_101 (by decide) ?_
            exact j_105 (0 : Int32) G_69 J_70 _ _ ls hf hH (lv_sub hl [0] rfl)
        refine lv_aload_n hx hb dX6_advance_34 rfl (lv_at hl 0 rfl) ?_
        refine lv_aload_n hx hb dX6_advance_35 rfl (lv_at hl 0 rfl) ?_
        refine gf_RX6_152 C hE hH 0 rfl rfl dX6_advance_36 ?_
        refine pf_RX6_149 C hE hH 0 rfl rfl rfl (Nat.le_of_ble_eq_true rfl) (fun q : M2 => wM g ad q J) (st2 G 0 (upd (G 0) 5 (G 0 4))) rfl dX6_advance_39 (fun G_72 eG_72 H locs hH => ?_)
        have hf := letb_at hf G_72 eG_72
        refine lv_aload_n hx hb dX6_advance_42 rfl (lv_at hl 0 rfl) ?_
        refine lv_aload_n hx hb dX6_advance_43 rfl (lv_at hl 0 rfl) ?_
        refine gf_RX6_152 C hE hH 0 rfl rfl dX6_advance_44 ?_
        obtain ⟨r_73, hc_74, hf⟩ := bind_inv hf
        refine aftPI (runV C hE hA hH [0, 1, 2, 3, 4, 5, 6, 7, 8, 9, 10, 11] nC_M_M_0_11 (sC_M_M_0_11 g ad G_72 J) (kX6_byteAt l g ad _ G_72 J (G_72 0 4) r_73  hc_74) tw_31_22 tw_31_23 tw_32_0 tw_1_5 tw_32_1 hdX6_byteAt 0 rfl rfl rfl rfl ⟨Nat.le_of_ble_eq_true rfl, Nat.le_of_ble_eq_true rfl⟩ rfl hl.1 (rest := []) rfl (Nat.le_of_ble_eq_true rfl) dX6_advance_47 ⟨Nat.zero_le _, Nat.zero_le _⟩) ?_
        refine lv_istore_n (lv' := [(1, .int r_73), (0, .ref (ad 0))]) hx hb dX6_advance_50 rfl hl (by decide) rfl (fun ls hl => ?_)
        refine lv_aload_n hx hb dX6_advance_51 rfl (lv_at hl 1 rfl) ?_
        refine lv_iload_n hx hb dX6_advance_52 rfl (lv_at hl 0 rfl) ?_
        refine lv_if_ge (tgt := 60) hx hb dX6_advance_53 (by decide) (fun c_75 => ?_) (fun c_75 => ?_)
        · have hf := if_p hf c_75
          refine lv_iload_n hx hb dX6_advance_60 rfl (lv_at hl 0 rfl) ?_
          obtain ⟨r_76, hc_77, hf⟩ := bind_inv hf
          refine aftPI (runS C hE hA hH [] rfl rfl (kX6_isLetter l g ad _ r_73 r_76  hc_77) tw_32_2 tw_32_3 tw_1_5 tw_32_4 hdX6_isLetter rfl rfl ⟨Nat.le_of_ble_eq_true rfl, Nat.le_of_ble_eq_true rfl⟩ rfl hl.1 (rest := [.ref (ad 0)]) rfl (Nat.le_of_ble_eq_true rfl) dX6_advance_61 ⟨Nat.zero_le _, Nat.zero_le _⟩) ?_
          refine lv_if_eq (tgt := 71) hx hb dX6_advance_64 (by decide) (fun c_78 => ?_) (fun c_78 => ?_)
          · have hf := if_p hf c_78
            refine lv_iload_n hx hb dX6_advance_71 rfl (lv_at hl 0 rfl) ?_
            obtain ⟨r_79, hc_80, hf⟩ := bind_inv hf
            refine aftPI (runS C hE hA hH [] rfl rfl (kX6_isDigit l g ad _ r_73 r_79  hc_80) tw_32_5 tw_32_6 tw_1_5 tw_32_7 hdX6_isDigit rfl rfl ⟨Nat.le_of_ble_eq_true rfl, Nat.le_of_ble_eq_true rfl⟩ rfl hl.1 (rest := [.ref (ad 0)]) rfl (Nat.le_of_ble_eq_true rfl) dX6_advance_72 ⟨Nat.zero_le _, Nat.zero_le _⟩) ?_
            refine lv_if_eq (tgt := 82) hx hb dX6_advance_75 (by decide) (fun c_81 => ?_) (fun c_81 => ?_)
            · have hf := if_p hf c_81
              refine lv_iconst (v := 3) hx hb dX6_advance_82 (by decide) ?_
              exact j_83 r_73 (3 : Int32) G_72 J _ _ ls hf hH (lv_sub hl [1, 0] rfl)
            · have hf := if_n hf c_81
              refine lv_iconst (v := 2) hx hb dX6_advance_78 (by decide) ?_
              refine lv_goto (tgt := 83) hx hb dX6_advance_79 (by decide) ?_
              exact j_83 r_73 (2 : Int32) G_72 J _ _ ls hf hH (lv_sub hl [1, 0] rfl)
          · have hf := if_n hf c_78
            refine lv_iconst (v := 1) hx hb dX6_advance_67 (by decide) ?_
            refine lv_goto (tgt := 83) hx hb dX6_advance_68 (by decide) ?_
            exact j_83 r_73 (1 : Int32) G_72 J _ _ ls hf hH (lv_sub hl [1, 0] rfl)
        · have hf := if_n hf c_75
          refine lv_iconst (v := 0) hx hb dX6_advance_56 (by decide) ?_
          refine lv_goto (tgt := 83) hx hb dX6_advance_57 (by decide) ?_
          exact j_83 r_73 (0 : Int32) G_72 J _ _ ls hf hH (lv_sub hl [1, 0] rfl)
      refine lv_aload_n hx hb dX6_advance_8 rfl (lv_at hl 0 rfl) ?_
      refine lv_aload_n hx hb dX6_advance_9 rfl (lv_at hl 0 rfl) ?_
      refine gf_RX6_152 C hE hH 0 rfl rfl dX6_advance_10 ?_
      obtain ⟨r_82, hc_83, hf⟩ := bind_inv hf
      refine aftPI (runV C hE hA hH [0, 1, 2, 3, 4, 5, 6, 7, 8, 9, 10, 11] nC_M_M_0_11 (sC_M_M_0_11 g ad G J) (kX6_byteAt l g ad _ G J (G 0 4) r_82  hc_83) tw_31_22 tw_31_23 tw_32_0 tw_1_5 tw_32_1 hdX6_byteAt 0 rfl rfl rfl rfl ⟨Nat.le_of_ble_eq_true rfl, Nat.le_of_ble_eq_true rfl⟩ rfl hl.1 (rest := []) rfl (Nat.le_of_ble_eq_true rfl) dX6_advance_13 ⟨Nat.zero_le _, Nat.zero_le _⟩) ?_
      refine lv_bipush (v := 32) hx hb dX6_advance_16 (by decide) ?_
      refine lv_icmp_ne (tgt := 34) hx hb dX6_advance_18 (by decide) (fun c_84 => ?_) (fun c_84 => ?_)
      · have hf := if_n hf c_84
        exact j_34 G J _ _ ls hf hH (lv_sub hl [0] rfl)
      · have hf := if_p hf c_84
        refine lv_aload_n hx hb dX6_advance_21 rfl (lv_at hl 0 rfl) ?_
        refine lv_dup hx hb dX6_advance_22 rfl ?_
        refine gf_RX6_152 C hE hH 0 rfl rfl dX6_advance_23 ?_
        refine lv_iconst (v := 1) hx hb dX6_advance_26 (by decide) ?_
        refine lv_iadd hx hb dX6_advance_27 ?_
        refine pf_RX6_152 C hE hH 0 rfl rfl rfl (Nat.le_of_ble_eq_true rfl) (fun q : M2 => wM g ad q J) (st2 G 0 (upd (G 0) 4 ((G 0 4) + (1 : Int32)))) rfl dX6_advance_28 (fun G_85 eG_85 H locs hH => ?_)
        have hf := letb_at hf G_85 eG_85
        refine lv_goto (tgt := 8) hx hb dX6_advance_31 (by decide) ?_
        exact ih_8 G_85 J _ _ ls hf hH (lv_sub hl [0] rfl)
  refine lv_aload_n hx hb dX6_advance_0 rfl (lv_at hl 0 rfl) ?_
  refine lv_aload_n hx hb dX6_advance_1 rfl (lv_at hl 0 rfl) ?_
  refine gf_RX6_149 C hE hH 0 rfl rfl dX6_advance_2 ?_
  refine pf_RX6_152 C hE hH 0 rfl rfl rfl (Nat.le_of_ble_eq_true rfl) (fun q : M2 => wM g ad q J) (st2 G 0 (upd (G 0) 4 (G 0 5))) rfl dX6_advance_5 (fun G_86 eG_86 H locs hH => ?_)
  have hf := letb_at hf G_86 eG_86
  exact lp_8 _ G_86 J _ _ ls hf hH (lv_sub hl [0] rfl)
def fX6_isWord_c22  (z0 : Int32) (G : M2) (J : J2) : Option (Int32) := grd (isB z0) (some z0)
def fX6_isWord_c21  (G : M2) (J : J2) : Option (Int32) := fX6_isWord_c22  (0 : Int32) G J
def fX6_isWord (x1 : Int64) (G : M2) (J : J2) : Option (Int32) := (if (G 0 3) = (1 : Int32) then (if (lg_cmp (J 0 0) x1) = 0 then fX6_isWord_c22  (1 : Int32) G J else fX6_isWord_c21  G J) else fX6_isWord_c21  G J)
def rmX6_isWord : Room := { frames := 0, cells := 0, slots := 0, locals := 0 }
theorem hdX6_isWord : yX6_isWord.cls = yX6_isWord.cls ∧ yX6_isWord.cls ≠ "java/lang/invoke/MethodHandle" ∧ yX6_isWord.cls ≠ "java/lang/invoke/VarHandle" ∧ (parseMethodDescriptor yX6_isWord.desc).map (fun d => d.parameters.length) = some 1 := by decide +kernel
set_option maxHeartbeats 4000000 in
set_option maxRecDepth 100000 in
theorem kX6_isWord (l : Launch) (g : Gl) (ad : Nat → Nat) (sz : Nat) (G : M2) (J : J2) (x1 : Int64) (r : Int32)  (hf : fX6_isWord x1 G J = some r) : MetPI l yX6_isWord (Cond.code yX6_isWord cX6_isWord 3 (some .boolean) :: wsL_law) rmX6_isWord [.ref (ad 0), .long x1] g (wM g ad G J) sz r := by
  refine openPI (by decide +kernel) (Nat.le_of_ble_eq_true rfl) ?_
  intro p e s m args below meth c A C hE hA hH ls hl
  have hl : lv_has ls 3 [(0, .ref (ad 0)), (1, .long x1)] := hl
  have C : Cx p s m args meth c cX6_isWord 3 (some .boolean) RX6 := C
  obtain ⟨hx, hb, hml, hown, hT, hr, hlk⟩ := id C
  rw [fX6_isWord] at hf
  have j_22 : ∀ (z0 : Int32) (ls : Array Slot), fX6_isWord_c22  z0 G J = some r → lv_has ls 3 [] → W p l e rmX6_isWord s m args below meth c s.heap [] 0 0 (QPI below args s r) (F0 m 22 ls [.int z0]) := by
    intro z0  ls hf hl
    rw [fX6_isWord_c22] at hf
    obtain ⟨hz, hf⟩ := grd_inv hf
    have h1 := Option.some.inj hf
    subst h1
    exact retPI C (isB_nar hz) dX6_isWord_22
  have j_21 : ∀  (ls : Array Slot), fX6_isWord_c21  G J = some r → lv_has ls 3 [] → W p l e rmX6_isWord s m args below meth c s.heap [] 0 0 (QPI below args s r) (F0 m 21 ls []) := by
    intro  ls hf hl
    rw [fX6_isWord_c21] at hf
    refine lv_iconst (v := 0) hx hb dX6_isWord_21 (by decide) ?_
    exact j_22 (0 : Int32) ls hf (lv_sub hl [] rfl)
  refine lv_aload_n hx hb dX6_isWord_0 rfl (lv_at hl 0 rfl) ?_
  refine gf_RX6_164 C hE hH 0 rfl rfl dX6_isWord_1 ?_
  refine lv_iconst (v := 1) hx hb dX6_isWord_4 (by decide) ?_
  refine lv_icmp_ne (tgt := 21) hx hb dX6_isWord_5 (by decide) (fun c_3 => ?_) (fun c_3 => ?_)
  · have hf := if_n hf c_3
    exact j_21  ls hf (lv_sub hl [] rfl)
  · have hf := if_p hf c_3
    refine lv_aload_n hx hb dX6_isWord_8 rfl (lv_at hl 0 rfl) ?_
    refine gf_RX6_167 C hE hH 0 rfl rfl dX6_isWord_9 ?_
    refine lv_lload_n hx hb dX6_isWord_12 rfl (lv_at hl 1 rfl) ?_
    refine W.lcmp hx hb dX6_isWord_13 ?_
    refine lv_if_ne (tgt := 21) hx hb dX6_isWord_14 (by decide) (fun c_4 => ?_) (fun c_4 => ?_)
    · have hf := if_n hf c_4
      exact j_21  ls hf (lv_sub hl [] rfl)
    · have hf := if_p hf c_4
      refine lv_iconst (v := 1) hx hb dX6_isWord_17 (by decide) ?_
      refine lv_goto (tgt := 22) hx hb dX6_isWord_18 (by decide) ?_
      exact j_22 (1 : Int32) ls hf (lv_sub hl [] rfl)
def fX6_kindHere_c85  (z0 : Int32) (G : M2) (J : J2) : Option (Int32) := some z0
def fX6_kindHere (G : M2) (J : J2) : Option (Int32) := (fX6_isWord (160605414 : Int64) G J).bind (fun (r_19 : Int32) => (if r_19 = 0 then (fX6_isWord (1041492564 : Int64) G J).bind (fun (r_22 : Int32) => (if r_22 = 0 then (fX6_isWord (11263 : Int64) G J).bind (fun (r_25 : Int32) => (if r_25 = 0 then (fX6_isWord (10364 : Int64) G J).bind (fun (r_28 : Int32) => (if r_28 = 0 then (fX6_isWord (410684 : Int64) G J).bind (fun (r_31 : Int32) => (if r_31 = 0 then (fX6_isWord (257153 : Int64) G J).bind (fun (r_34 : Int32) => (if r_34 = 0 then fX6_kindHere_c85  (-1 : Int32) G J else fX6_kindHere_c85  (5 : Int32) G J)) else fX6_kindHere_c85  (4 : Int32) G J)) else fX6_kindHere_c85  (3 : Int32) G J)) else fX6_kindHere_c85  (2 : Int32) G J)) else fX6_kindHere_c85  (1 : Int32) G J)) else fX6_kindHere_c85  (0 : Int32) G J))
def rmX6_kindHere : Room := { frames := 1, cells := 0, slots := 0, locals := 22 }
theorem hdX6_kindHere : yX6_kindHere.cls = yX6_kindHere.cls ∧ yX6_kindHere.cls ≠ "java/lang/invoke/MethodHandle" ∧ yX6_kindHere.cls ≠ "java/lang/invoke/VarHandle" ∧ (parseMethodDescriptor yX6_kindHere.desc).map (fun d => d.parameters.length) = some 0 := by decide +kernel
set_option maxHeartbeats 4000000 in
set_option maxRecDepth 100000 in
theorem kX6_kindHere (l : Launch) (g : Gl) (ad : Nat → Nat) (sz : Nat) (G : M2) (J : J2)  (r : Int32)  (hf : fX6_kindHere G J = some r) : MetPI l yX6_kindHere (Cond.code yX6_kindHere cX6_kindHere 1 (some .int) :: wsL_law) rmX6_kindHere [.ref (ad 0)] g (wM g ad G J) sz r := by
  refine openPI (by decide +kernel) (Nat.le_of_ble_eq_true rfl) ?_
  intro p e s m args below meth c A C hE hA hH ls hl
  have hl : lv_has ls 1 [(0, .ref (ad 0))] := hl
  have C : Cx p s m args meth c cX6_kindHere 1 (some .int) RX6 := C
  obtain ⟨hx, hb, hml, hown, hT, hr, hlk⟩ := id C
  rw [fX6_kindHere] at hf
  have j_85 : ∀ (z0 : Int32) (ls : Array Slot), fX6_kindHere_c85  z0 G J = some r → lv_has ls 1 [] → W p l e rmX6_kindHere s m args below meth c s.heap [] 0 0 (QPI below args s r) (F0 m 85 ls [.int z0]) := by
    intro z0  ls hf hl
    rw [fX6_kindHere_c85] at hf
    have h1 := Option.some.inj hf
    subst h1
    exact retPI C rfl dX6_kindHere_85
  refine lv_aload_n hx hb dX6_kindHere_0 rfl (lv_at hl 0 rfl) ?_
  refine W.ldc2 hx hb hown (hT _ tw_32_20) rfl dX6_kindHere_1 ?_
  refine W.eq (g2 := F0 m 4 ls [.long (160605414 : Int64), .ref (ad 0)]) rfl ?_
  obtain ⟨r_19, hc_20, hf⟩ := bind_inv hf
  refine aftPI (runV C hE hA hH [0, 1, 2, 3, 4, 5, 6, 7, 8, 9, 10, 11] nC_M_M_0_11 (sC_M_M_0_11 g ad G J) (kX6_isWord l g ad _ G J (160605414 : Int64) r_19  hc_20) tw_33_2 tw_33_3 tw_33_4 tw_1_5 tw_33_5 hdX6_isWord 0 rfl rfl rfl rfl ⟨Nat.le_of_ble_eq_true rfl, Nat.le_of_ble_eq_true rfl⟩ rfl hl.1 (rest := []) rfl (Nat.le_of_ble_eq_true rfl) dX6_kindHere_4 ⟨Nat.zero_le _, Nat.zero_le _⟩) ?_
  refine lv_if_eq (tgt := 14) hx hb dX6_kindHere_7 (by decide) (fun c_21 => ?_) (fun c_21 => ?_)
  · have hf := if_p hf c_21
    refine lv_aload_n hx hb dX6_kindHere_14 rfl (lv_at hl 0 rfl) ?_
    refine W.ldc2 hx hb hown (hT _ tw_32_21) rfl dX6_kindHere_15 ?_
    refine W.eq (g2 := F0 m 18 ls [.long (1041492564 : Int64), .ref (ad 0)]) rfl ?_
    obtain ⟨r_22, hc_23, hf⟩ := bind_inv hf
    refine aftPI (runV C hE hA hH [0, 1, 2, 3, 4, 5, 6, 7, 8, 9, 10, 11] nC_M_M_0_11 (sC_M_M_0_11 g ad G J) (kX6_isWord l g ad _ G J (1041492564 : Int64) r_22  hc_23) tw_33_2 tw_33_3 tw_33_4 tw_1_5 tw_33_5 hdX6_isWord 0 rfl rfl rfl rfl ⟨Nat.le_of_ble_eq_true rfl, Nat.le_of_ble_eq_true rfl⟩ rfl hl.1 (rest := []) rfl (Nat.le_of_ble_eq_true rfl) dX6_kindHere_18 ⟨Nat.zero_le _, Nat.zero_le _⟩) ?_
    refine lv_if_eq (tgt := 28) hx hb dX6_kindHere_21 (by decide) (fun c_24 => ?_) (fun c_24 => ?_)
    · have hf := if_p hf c_24
      refine lv_aload_n hx hb dX6_kindHere_28 rfl (lv_at hl 0 rfl) ?_
      refine W.ldc2 hx hb hown (hT _ tw_32_22) rfl dX6_kindHere_29 ?_
      refine W.eq (g2 := F0 m 32 ls [.long (11263 : Int64), .ref (ad 0)]) rfl ?_
      obtain ⟨r_25, hc_26, hf⟩ := bind_inv hf
      refine aftPI (runV C hE hA hH [0, 1, 2, 3, 4, 5, 6, 7, 8, 9, 10, 11] nC_M_M_0_11 (sC_M_M_0_11 g ad G J) (kX6_isWord l g ad _ G J (11263 : Int64) r_25  hc_26) tw_33_2 tw_33_3 tw_33_4 tw_1_5 tw_33_5 hdX6_isWord 0 rfl rfl rfl rfl ⟨Nat.le_of_ble_eq_true rfl, Nat.le_of_ble_eq_true rfl⟩ rfl hl.1 (rest := []) rfl (Nat.le_of_ble_eq_true rfl) dX6_kindHere_32 ⟨Nat.zero_le _, Nat.zero_le _⟩) ?_
      refine lv_if_eq (tgt := 42) hx hb dX6_kindHere_35 (by decide) (fun c_27 => ?_) (fun c_27 => ?_)
      · have hf := if_p hf c_27
        refine lv_aload_n hx hb dX6_kindHere_42 rfl (lv_at hl 0 rfl) ?_
        refine W.ldc2 hx hb hown (hT _ tw_32_23) rfl dX6_kindHere_43 ?_
        refine W.eq (g2 := F0 m 46 ls [.long (10364 : Int64), .ref (ad 0)]) rfl ?_
        obtain ⟨r_28, hc_29, hf⟩ := bind_inv hf
        refine aftPI (runV C hE hA hH [0, 1, 2, 3, 4, 5, 6, 7, 8, 9, 10, 11] nC_M_M_0_11 (sC_M_M_0_11 g ad G J) (kX6_isWord l g ad _ G J (10364 : Int64) r_28  hc_29) tw_33_2 tw_33_3 tw_33_4 tw_1_5 tw_33_5 hdX6_isWord 0 rfl rfl rfl rfl ⟨Nat.le_of_ble_eq_true rfl, Nat.le_of_ble_eq_true rfl⟩ rfl hl.1 (rest := []) rfl (Nat.le_of_ble_eq_true rfl) dX6_kindHere_46 ⟨Nat.zero_le _, Nat.zero_le _⟩) ?_
        refine lv_if_eq (tgt := 56) hx hb dX6_kindHere_49 (by decide) (fun c_30 => ?_) (fun c_30 => ?_)
        · have hf := if_p hf c_30
          refine lv_aload_n hx hb dX6_kindHere_56 rfl (lv_at hl 0 rfl) ?_
          refine W.ldc2 hx hb hown (hT _ tw_33_0) rfl dX6_kindHere_57 ?_
          refine W.eq (g2 := F0 m 60 ls [.long (410684 : Int64), .ref (ad 0)]) rfl ?_
          obtain ⟨r_31, hc_32, hf⟩ := bind_inv hf
          refine aftPI (runV C hE hA hH [0, 1, 2, 3, 4, 5, 6, 7, 8, 9, 10, 11] nC_M_M_0_11 (sC_M_M_0_11 g ad G J) (kX6_isWord l g ad _ G J (410684 : Int64) r_31  hc_32) tw_33_2 tw_33_3 tw_33_4 tw_1_5 tw_33_5 hdX6_isWord 0 rfl rfl rfl rfl ⟨Nat.le_of_ble_eq_true rfl, Nat.le_of_ble_eq_true rfl⟩ rfl hl.1 (rest := []) rfl (Nat.le_of_ble_eq_true rfl) dX6_kindHere_60 ⟨Nat.zero_le _, Nat.zero_le _⟩) ?_
          refine lv_if_eq (tgt := 70) hx hb dX6_kindHere_63 (by decide) (fun c_33 => ?_) (fun c_33 => ?_)
          · have hf := if_p hf c_33
            refine lv_aload_n hx hb dX6_kindHere_70 rfl (lv_at hl 0 rfl) ?_
            refine W.ldc2 hx hb hown (hT _ tw_33_1) rfl dX6_kindHere_71 ?_
            refine W.eq (g2 := F0 m 74 ls [.long (257153 : Int64), .ref (ad 0)]) rfl ?_
            obtain ⟨r_34, hc_35, hf⟩ := bind_inv hf
            refine aftPI (runV C hE hA hH [0, 1, 2, 3, 4, 5, 6, 7, 8, 9, 10, 11] nC_M_M_0_11 (sC_M_M_0_11 g ad G J) (kX6_isWord l g ad _ G J (257153 : Int64) r_34  hc_35) tw_33_2 tw_33_3 tw_33_4 tw_1_5 tw_33_5 hdX6_isWord 0 rfl rfl rfl rfl ⟨Nat.le_of_ble_eq_true rfl, Nat.le_of_ble_eq_true rfl⟩ rfl hl.1 (rest := []) rfl (Nat.le_of_ble_eq_true rfl) dX6_kindHere_74 ⟨Nat.zero_le _, Nat.zero_le _⟩) ?_
            refine lv_if_eq (tgt := 84) hx hb dX6_kindHere_77 (by decide) (fun c_36 => ?_) (fun c_36 => ?_)
            · have hf := if_p hf c_36
              refine lv_iconst (v := (-1)) hx hb dX6_kindHere_84 (by decide) ?_
              exact j_85 (-1 : Int32) ls hf (lv_sub hl [] rfl)
            · have hf := if_n hf c_36
              refine lv_iconst (v := 5) hx hb dX6_kindHere_80 (by decide) ?_
              refine lv_goto (tgt := 85) hx hb dX6_kindHere_81 (by decide) ?_
              exact j_85 (5 : Int32) ls hf (lv_sub hl [] rfl)
          · have hf := if_n hf c_33
            refine lv_iconst (v := 4) hx hb dX6_kindHere_66 (by decide) ?_
            refine lv_goto (tgt := 85) hx hb dX6_kindHere_67 (by decide) ?_
            exact j_85 (4 : Int32) ls hf (lv_sub hl [] rfl)
        · have hf := if_n hf c_30
          refine lv_iconst (v := 3) hx hb dX6_kindHere_52 (by decide) ?_
          refine lv_goto (tgt := 85) hx hb dX6_kindHere_53 (by decide) ?_
          exact j_85 (3 : Int32) ls hf (lv_sub hl [] rfl)
      · have hf := if_n hf c_27
        refine lv_iconst (v := 2) hx hb dX6_kindHere_38 (by decide) ?_
        refine lv_goto (tgt := 85) hx hb dX6_kindHere_39 (by decide) ?_
        exact j_85 (2 : Int32) ls hf (lv_sub hl [] rfl)
    · have hf := if_n hf c_24
      refine lv_iconst (v := 1) hx hb dX6_kindHere_24 (by decide) ?_
      refine lv_goto (tgt := 85) hx hb dX6_kindHere_25 (by decide) ?_
      exact j_85 (1 : Int32) ls hf (lv_sub hl [] rfl)
  · have hf := if_n hf c_21
    refine lv_iconst (v := 0) hx hb dX6_kindHere_10 (by decide) ?_
    refine lv_goto (tgt := 85) hx hb dX6_kindHere_11 (by decide) ?_
    exact j_85 (0 : Int32) ls hf (lv_sub hl [] rfl)
def fX6_wantNumber_c49  (y3 : Int32) (G : M2) (J : J2) : Option (Int32 × M2 × J2) := some (y3, G, J)
def fX6_wantNumber_c35  (y3 : Int32) (z0 : Int32) (G : M2) (J : J2) : Option (Int32 × M2 × J2) := grd (isB z0) (letb (st2 G 0 (upd (G 0) 7 z0)) (fun G_12 : M2 => (if (G_12 0 7) = 0 then fX6_wantNumber_c49  y3 G_12 J else bind2 (fX6_advance G_12 J) (fun (G_14 : M2) (J_15 : J2) => fX6_wantNumber_c49  y3 G_14 J_15))))
def fX6_wantNumber_c34  (y3 : Int32) (G : M2) (J : J2) : Option (Int32 × M2 × J2) := fX6_wantNumber_c35  y3 (0 : Int32) G J
def fX6_wantNumber (x1 : Int32) (x2 : Int32) (G : M2) (J : J2) : Option (Int32 × M2 × J2) := letb (G 0 6) (fun v_17 : Int32 => (if (G 0 7) = 0 then fX6_wantNumber_c34  v_17 G J else (if (G 0 3) = (2 : Int32) then (fX6_in v_17 x1 x2).bind (fun (r_20 : Int32) => (if r_20 = 0 then fX6_wantNumber_c34  v_17 G J else fX6_wantNumber_c35  v_17 (1 : Int32) G J)) else fX6_wantNumber_c34  v_17 G J)))
def rmX6_wantNumber : Room := { frames := 3, cells := 0, slots := 0, locals := 63 }
theorem hdX6_wantNumber : yX6_wantNumber.cls = yX6_wantNumber.cls ∧ yX6_wantNumber.cls ≠ "java/lang/invoke/MethodHandle" ∧ yX6_wantNumber.cls ≠ "java/lang/invoke/VarHandle" ∧ (parseMethodDescriptor yX6_wantNumber.desc).map (fun d => d.parameters.length) = some 2 := by decide +kernel
set_option maxHeartbeats 4000000 in
set_option maxRecDepth 100000 in
theorem kX6_wantNumber (l : Launch) (g : Gl) (ad : Nat → Nat) (sz : Nat) (G : M2) (J : J2) (x1 : Int32) (x2 : Int32) (r : Int32) (G' : M2) (J' : J2)  (hf : fX6_wantNumber x1 x2 G J = some (r, G', J')) : MetI l yX6_wantNumber (Cond.code yX6_wantNumber cX6_wantNumber 4 (some .int) :: wsL_law) rmX6_wantNumber [.ref (ad 0), .int x1, .int x2] g (wM g ad G J) sz r (wM g ad G' J') := by
  refine openI (by decide +kernel) (Nat.le_of_ble_eq_true rfl) ?_
  intro p e s m args below meth c A C hE hA hH ls hl
  have hl : lv_has ls 4 [(0, .ref (ad 0)), (1, .int x1), (2, .int x2)] := hl
  have C : Cx p s m args meth c cX6_wantNumber 4 (some .int) RX6 := C
  obtain ⟨hx, hb, hml, hown, hT, hr, hlk⟩ := id C
  rw [fX6_wantNumber] at hf
  have j_35 : ∀ (y3 : Int32) (z0 : Int32) (G : M2) (J : J2) (H : Heap) (locs : List Loc) (ls : Array Slot), fX6_wantNumber_c35  y3 z0 G J = some (r, G', J') → Hp g A s H locs (wM g ad G J) → lv_has ls 4 [(0, .ref (ad 0)), (3, .int y3)] → W p l e rmX6_wantNumber s m args below meth c H locs 0 0 (QI g A below args s r (wM g ad G' J')) (F0 m 35 ls [.int z0, .ref (ad 0)]) := by
    intro y3 z0 G J H locs  ls hf hH hl
    rw [fX6_wantNumber_c35] at hf
    have j_49 : ∀ (y3 : Int32) (G : M2) (J : J2) (H : Heap) (locs : List Loc) (ls : Array Slot), fX6_wantNumber_c49  y3 G J = some (r, G', J') → Hp g A s H locs (wM g ad G J) → lv_has ls 4 [(3, .int y3)] → W p l e rmX6_wantNumber s m args below meth c H locs 0 0 (QI g A below args s r (wM g ad G' J')) (F0 m 49 ls []) := by
      intro y3 G J H locs  ls hf hH hl
      rw [fX6_wantNumber_c49] at hf
      refine lv_iload_n hx hb dX6_wantNumber_49 rfl (lv_at hl 0 rfl) ?_
      have hf := Option.some.inj hf
      obtain ⟨h1, hf⟩ := Prod.mk.inj hf
      obtain ⟨h2, h3⟩ := Prod.mk.inj hf
      subst h1
      subst h2
      subst h3
      exact retI C hH rfl dX6_wantNumber_50
    obtain ⟨hz, hf⟩ := grd_inv hf
    refine pf_RX6_196 C hE hH 0 rfl (isB_nar hz) (isB_fit hz) (Nat.le_of_ble_eq_true rfl) (fun q : M2 => wM g ad q J) (st2 G 0 (upd (G 0) 7 z0)) rfl dX6_wantNumber_35 (fun G_12 eG_12 H locs hH => ?_)
    have hf := letb_at hf G_12 eG_12
    refine lv_aload_n hx hb dX6_wantNumber_38 rfl (lv_at hl 0 rfl) ?_
    refine gf_RX6_196 C hE hH 0 rfl rfl dX6_wantNumber_39 ?_
    refine lv_if_eq (tgt := 49) hx hb dX6_wantNumber_42 (by decide) (fun c_13 => ?_) (fun c_13 => ?_)
    · have hf := if_p hf c_13
      exact j_49 y3 G_12 J _ _ ls hf hH (lv_sub hl [1] rfl)
    · have hf := if_n hf c_13
      refine lv_aload_n hx hb dX6_wantNumber_45 rfl (lv_at hl 0 rfl) ?_
      obtain ⟨G_14, J_15, hc_16, hf⟩ := bind2_inv hf
      refine aftV (runV C hE hA hH [0, 1, 2, 3, 4, 5, 6, 7, 8, 9, 10, 11] nC_M_M_0_11 (sC_M_M_0_11 g ad G_12 J) (kX6_advance l g ad _ G_12 J G_14 J_15  hc_16) tw_31_14 tw_31_15 tw_31_16 tw_1_5 tw_31_17 hdX6_advance 0 rfl rfl rfl rfl ⟨Nat.le_of_ble_eq_true rfl, Nat.le_of_ble_eq_true rfl⟩ rfl hl.1 (rest := []) rfl (Nat.le_of_ble_eq_true rfl) dX6_wantNumber_46 ⟨Nat.zero_le _, Nat.zero_le _⟩) hA hH [0, 1, 2, 3, 4, 5, 6, 7, 8, 9, 10, 11] [] (sC_M_M_0_11 g ad G_12 J) (sR_M_M_0_11 g ad G_12 J) nR_M_M_0_11 dj_M_M_0_11 [0, 1, 2, 3, 4, 5, 6, 7, 8, 9, 10, 11] nP_M_M_0_11 (sP_M_M_0_11 g ad G_12 J G_14 J_15) (fun H locs hH => ?_)
      exact j_49 y3 G_14 J_15 _ _ ls hf hH (lv_sub hl [1] rfl)
  have j_34 : ∀ (y3 : Int32) (G : M2) (J : J2) (H : Heap) (locs : List Loc) (ls : Array Slot), fX6_wantNumber_c34  y3 G J = some (r, G', J') → Hp g A s H locs (wM g ad G J) → lv_has ls 4 [(0, .ref (ad 0)), (3, .int y3)] → W p l e rmX6_wantNumber s m args below meth c H locs 0 0 (QI g A below args s r (wM g ad G' J')) (F0 m 34 ls [.ref (ad 0)]) := by
    intro y3 G J H locs  ls hf hH hl
    rw [fX6_wantNumber_c34] at hf
    refine lv_iconst (v := 0) hx hb dX6_wantNumber_34 (by decide) ?_
    exact j_35 y3 (0 : Int32) G J _ _ ls hf hH (lv_sub hl [0, 1] rfl)
  refine lv_aload_n hx hb dX6_wantNumber_0 rfl (lv_at hl 0 rfl) ?_
  refine gf_RX6_171 C hE hH 0 rfl rfl dX6_wantNumber_1 ?_
  refine lv_topi (fun v_17 ev_17 => ?_)
  have hf := letb_at hf v_17 ev_17
  refine lv_istore_n (lv' := [(3, .int v_17), (0, .ref (ad 0)), (1, .int x1), (2, .int x2)]) hx hb dX6_wantNumber_4 rfl hl (by decide) rfl (fun ls hl => ?_)
  refine lv_aload_n hx hb dX6_wantNumber_5 rfl (lv_at hl 1 rfl) ?_
  refine lv_aload_n hx hb dX6_wantNumber_6 rfl (lv_at hl 1 rfl) ?_
  refine gf_RX6_196 C hE hH 0 rfl rfl dX6_wantNumber_7 ?_
  refine lv_if_eq (tgt := 34) hx hb dX6_wantNumber_10 (by decide) (fun c_18 => ?_) (fun c_18 => ?_)
  · have hf := if_p hf c_18
    exact j_34 v_17 G J _ _ ls hf hH (lv_sub hl [1, 0] rfl)
  · have hf := if_n hf c_18
    refine lv_aload_n hx hb dX6_wantNumber_13 rfl (lv_at hl 1 rfl) ?_
    refine gf_RX6_164 C hE hH 0 rfl rfl dX6_wantNumber_14 ?_
    refine lv_iconst (v := 2) hx hb dX6_wantNumber_17 (by decide) ?_
    refine lv_icmp_ne (tgt := 34) hx hb dX6_wantNumber_18 (by decide) (fun c_19 => ?_) (fun c_19 => ?_)
    · have hf := if_n hf c_19
      exact j_34 v_17 G J _ _ ls hf hH (lv_sub hl [1, 0] rfl)
    · have hf := if_p hf c_19
      refine lv_iload_n hx hb dX6_wantNumber_21 rfl (lv_at hl 0 rfl) ?_
      refine lv_iload_n hx hb dX6_wantNumber_22 rfl (lv_at hl 2 rfl) ?_
      refine lv_iload_n hx hb dX6_wantNumber_23 rfl (lv_at hl 3 rfl) ?_
      obtain ⟨r_20, hc_21, hf⟩ := bind_inv hf
      refine aftPI (runS C hE hA hH [] rfl rfl (kX6_in l g ad _ v_17 x1 x2 r_20  hc_21) tw_5_2 tw_5_3 tw_1_5 tw_5_4 hdX6_in rfl rfl ⟨Nat.le_of_ble_eq_true rfl, Nat.le_of_ble_eq_true rfl⟩ rfl hl.1 (rest := [.ref (ad 0)]) rfl (Nat.le_of_ble_eq_true rfl) dX6_wantNumber_24 ⟨Nat.zero_le _, Nat.zero_le _⟩) ?_
      refine lv_if_eq (tgt := 34) hx hb dX6_wantNumber_27 (by decide) (fun c_22 => ?_) (fun c_22 => ?_)
      · have hf := if_p hf c_22
        exact j_34 v_17 G J _ _ ls hf hH (lv_sub hl [1, 0] rfl)
      · have hf := if_n hf c_22
        refine lv_iconst (v := 1) hx hb dX6_wantNumber_30 (by decide) ?_
        refine lv_goto (tgt := 35) hx hb dX6_wantNumber_31 (by decide) ?_
        exact j_35 v_17 (1 : Int32) G J _ _ ls hf hH (lv_sub hl [1, 0] rfl)
def fX6_mayKnow_c17  (G : M2) (J : J2) : Option (Int32 × M2 × J2) := some ((0 : Int32), G, J)
def fX6_mayKnow_c82  (y1 : Int32) (G : M2) (J : J2) : Option (Int32 × M2 × J2) := some (y1, G, J)
def fX6_mayKnow_c74 (k_27 : Int32 → Int32 → M2 → J2 → Option (Int32 × M2 × J2)) (y2 : Int32) (z0 : Int32) (z1 : Int32) (G : M2) (J : J2) : Option (Int32 × M2 × J2) := letb (z1 ||| z0) (fun v_19 : Int32 => letb (y2 + (1 : Int32)) (fun v_20 : Int32 => k_27 v_19 v_20 G J))
def fX6_mayKnow_c51 (k_27 : Int32 → Int32 → M2 → J2 → Option (Int32 × M2 × J2)) (y1 : Int32) (y2 : Int32) (G : M2) (J : J2) : Option (Int32 × M2 × J2) := bind3 (fX6_wantNumber (0 : Int32) (8 : Int32) G J) (fun (r_21 : Int32) (G_22 : M2) (J_23 : J2) => (if (G_22 0 7) = 0 then fX6_mayKnow_c74 k_27 y2 (0 : Int32) y1 G_22 J_23 else fX6_mayKnow_c74 k_27 y2 ((1 : Int32) <<< (r_21 &&& 31)) y1 G_22 J_23))
def fX6_mayKnow_c27  : Nat → Int32 → Int32 → M2 → J2 → Option (Int32 × M2 × J2)
  | 0, _, _, _, _ => none
  | n + 1, y1, y2, G, J => (if (4 : Int32) ≤ y2 then fX6_mayKnow_c82  y1 G J else (if (G 0 7) = 0 then fX6_mayKnow_c82  y1 G J else (if y2 = 0 then fX6_mayKnow_c51 (fX6_mayKnow_c27 n) y1 y2 G J else (if (G 0 3) = (2 : Int32) then fX6_mayKnow_c51 (fX6_mayKnow_c27 n) y1 y2 G J else fX6_mayKnow_c82  y1 G J))))
def fX6_mayKnow (G : M2) (J : J2) : Option (Int32 × M2 × J2) := (if (G 0 7) = 0 then fX6_mayKnow_c17  G J else (fX6_isWord (6132988 : Int64) G J).bind (fun (r_31 : Int32) => (if r_31 = 0 then fX6_mayKnow_c17  G J else bind2 (fX6_advance G J) (fun (G_34 : M2) (J_35 : J2) => fX6_mayKnow_c27  FU (0 : Int32) (0 : Int32) G_34 J_35))))
def rmX6_mayKnow : Room := { frames := 4, cells := 0, slots := 0, locals := 86 }
theorem hdX6_mayKnow : yX6_mayKnow.cls = yX6_mayKnow.cls ∧ yX6_mayKnow.cls ≠ "java/lang/invoke/MethodHandle" ∧ yX6_mayKnow.cls ≠ "java/lang/invoke/VarHandle" ∧ (parseMethodDescriptor yX6_mayKnow.desc).map (fun d => d.parameters.length) = some 0 := by decide +kernel
set_option maxHeartbeats 4000000 in
set_option maxRecDepth 100000 in
theorem kX6_mayKnow (l : Launch) (g : Gl) (ad : Nat → Nat) (sz : Nat) (G : M2) (J : J2)  (r : Int32) (G' : M2) (J' : J2)  (hf : fX6_mayKnow G J = some (r, G', J')) : MetI l yX6_mayKnow (Cond.code yX6_mayKnow cX6_mayKnow 4 (some .int) :: wsL_law) rmX6_mayKnow [.ref (ad 0)] g (wM g ad G J) sz r (wM g ad G' J') := by
  refine openI (by decide +kernel) (Nat.le_of_ble_eq_true rfl) ?_
  intro p e s m args below meth c A C hE hA hH ls hl
  have hl : lv_has ls 4 [(0, .ref (ad 0))] := hl
  have C : Cx p s m args meth c cX6_mayKnow 4 (some .int) RX6 := C
  obtain ⟨hx, hb, hml, hown, hT, hr, hlk⟩ := id C
  rw [fX6_mayKnow] at hf
  have j_17 : ∀ (G : M2) (J : J2) (H : Heap) (locs : List Loc) (ls : Array Slot), fX6_mayKnow_c17  G J = some (r, G', J') → Hp g A s H locs (wM g ad G J) → lv_has ls 4 [] → W p l e rmX6_mayKnow s m args below meth c H locs 0 0 (QI g A below args s r (wM g ad G' J')) (F0 m 17 ls []) := by
    intro G J H locs  ls hf hH hl
    rw [fX6_mayKnow_c17] at hf
    refine lv_iconst (v := 0) hx hb dX6_mayKnow_17 (by decide) ?_
    have hf := Option.some.inj hf
    obtain ⟨h1, hf⟩ := Prod.mk.inj hf
    obtain ⟨h2, h3⟩ := Prod.mk.inj hf
    subst h1
    subst h2
    subst h3
    exact retI C hH rfl dX6_mayKnow_18
  have lp_27 : ∀ (n_27 : Nat) (y1 : Int32) (y2 : Int32) (G : M2) (J : J2) (H : Heap) (locs : List Loc) (ls : Array Slot), fX6_mayKnow_c27  n_27 y1 y2 G J = some (r, G', J') → Hp g A s H locs (wM g ad G J) → lv_has ls 4 [(0, .ref (ad 0)), (1, .int y1), (2, .int y2)] → W p l e rmX6_mayKnow s m args below meth c H locs 0 0 (QI g A below args s r (wM g ad G' J')) (F0 m 27 ls []) := by
    intro n_27
    induction n_27 with
    | zero =>
      intro y1 y2 G J H locs  ls hf hH hl
      rw [fX6_mayKnow_c27] at hf
      cases hf
    | succ n_27 ih_27 =>
      intro y1 y2 G J H locs  ls hf hH hl
      rw [fX6_mayKnow_c27] at hf
      have j_82 : ∀ (y1 : Int32) (G : M2) (J : J2) (H : Heap) (locs : List Loc) (ls : Array Slot), fX6_mayKnow_c82  y1 G J = some (r, G', J') → Hp g A s H locs (wM g ad G J) → lv_has ls 4 [(1, .int y1)] → W p l e rmX6_mayKnow s m args below meth c H locs 0 0 (QI g A below args s r (wM g ad G' J')) (F0 m 82 ls []) := by
        intro y1 G J H locs  ls hf hH hl
        rw [fX6_mayKnow_c82] at hf
        refine lv_iload_n hx hb dX6_mayKnow_82 rfl (lv_at hl 0 rfl) ?_
        have hf := Option.some.inj hf
        obtain ⟨h1, hf⟩ := Prod.mk.inj hf
        obtain ⟨h2, h3⟩ := Prod.mk.inj hf
        subst h1
        subst h2
        subst h3
        exact retI C hH rfl dX6_mayKnow_83
      have j_51 : ∀ (y1 : Int32) (y2 : Int32) (G : M2) (J : J2) (H : Heap) (locs : List Loc) (ls : Array Slot), fX6_mayKnow_c51 (fX6_mayKnow_c27 n_27) y1 y2 G J = some (r, G', J') → Hp g A s H locs (wM g ad G J) → lv_has ls 4 [(0, .ref (ad 0)), (1, .int y1), (2, .int y2)] → W p l e rmX6_mayKnow s m args below meth c H locs 0 0 (QI g A below args s r (wM g ad G' J')) (F0 m 51 ls []) := by
        intro y1 y2 G J H locs  ls hf hH hl
        rw [fX6_mayKnow_c51] at hf
        have j_74 : ∀ (y2 : Int32) (z0 : Int32) (z1 : Int32) (G : M2) (J : J2) (H : Heap) (locs : List Loc) (ls : Array Slot), fX6_mayKnow_c74 (fX6_mayKnow_c27 n_27) y2 z0 z1 G J = some (r, G', J') → Hp g A s H locs (wM g ad G J) → lv_has ls 4 [(0, .ref (ad 0)), (2, .int y2)] → W p l e rmX6_mayKnow s m args below meth c H locs 0 0 (QI g A below args s r (wM g ad G' J')) (F0 m 74 ls [.int z0, .int z1]) := by
          intro y2 z0 z1 G J H locs  ls hf hH hl
          rw [fX6_mayKnow_c74] at hf
          refine lv_ior hx hb dX6_mayKnow_74 ?_
          refine lv_topi (fun v_19 ev_19 => ?_)
          have hf := letb_at hf v_19 ev_19
          refine lv_istore_n (lv' := [(1, .int v_19), (0, .ref (ad 0)), (2, .int y2)]) hx hb dX6_mayKnow_75 rfl hl (by decide) rfl (fun ls hl => ?_)
          obtain ⟨v_20, ev_20⟩ : ∃ z : Int32, z = y2 + (1 : Int32) := ⟨_, rfl⟩
          have hf := letb_at hf v_20 ev_20
          refine lv_iinc (v := v_20) (lv' := [(2, .int v_20), (1, .int v_19), (0, .ref (ad 0))]) hx hb dX6_mayKnow_76 hl (k := 2) rfl (by rw [ev_20]; rfl) (by decide) rfl (fun ls hl => ?_)
          refine lv_goto (tgt := 27) hx hb dX6_mayKnow_79 (by decide) ?_
          exact ih_27 v_19 v_20 G J _ _ ls hf hH (lv_sub hl [2, 1, 0] rfl)
        refine lv_aload_n hx hb dX6_mayKnow_51 rfl (lv_at hl 0 rfl) ?_
        refine lv_iconst (v := 0) hx hb dX6_mayKnow_52 (by decide) ?_
        refine lv_bipush (v := 8) hx hb dX6_mayKnow_53 (by decide) ?_
        obtain ⟨r_21, G_22, J_23, hc_24, hf⟩ := bind3_inv hf
        refine aftI (runV C hE hA hH [0, 1, 2, 3, 4, 5, 6, 7, 8, 9, 10, 11] nC_M_M_0_11 (sC_M_M_0_11 g ad G J) (kX6_wantNumber l g ad _ G J (0 : Int32) (8 : Int32) r_21 G_22 J_23  hc_24) tw_33_16 tw_33_17 tw_33_18 tw_1_5 tw_33_19 hdX6_wantNumber 0 rfl rfl rfl rfl ⟨Nat.le_of_ble_eq_true rfl, Nat.le_of_ble_eq_true rfl⟩ rfl hl.1 (rest := []) rfl (Nat.le_of_ble_eq_true rfl) dX6_mayKnow_55 ⟨Nat.zero_le _, Nat.zero_le _⟩) hA hH [0, 1, 2, 3, 4, 5, 6, 7, 8, 9, 10, 11] [] (sC_M_M_0_11 g ad G J) (sR_M_M_0_11 g ad G J) nR_M_M_0_11 dj_M_M_0_11 [0, 1, 2, 3, 4, 5, 6, 7, 8, 9, 10, 11] nP_M_M_0_11 (sP_M_M_0_11 g ad G J G_22 J_23) (fun H locs hH => ?_)
        refine lv_istore_n (lv' := [(3, .int r_21), (0, .ref (ad 0)), (1, .int y1), (2, .int y2)]) hx hb dX6_mayKnow_58 rfl hl (by decide) rfl (fun ls hl => ?_)
        refine lv_iload_n hx hb dX6_mayKnow_59 rfl (lv_at hl 2 rfl) ?_
        refine lv_aload_n hx hb dX6_mayKnow_60 rfl (lv_at hl 1 rfl) ?_
        refine gf_RX6_196 C hE hH 0 rfl rfl dX6_mayKnow_61 ?_
        refine lv_if_eq (tgt := 73) hx hb dX6_mayKnow_64 (by decide) (fun c_25 => ?_) (fun c_25 => ?_)
        · have hf := if_p hf c_25
          refine lv_iconst (v := 0) hx hb dX6_mayKnow_73 (by decide) ?_
          exact j_74 y2 (0 : Int32) y1 G_22 J_23 _ _ ls hf hH (lv_sub hl [1, 3] rfl)
        · have hf := if_n hf c_25
          refine lv_iconst (v := 1) hx hb dX6_mayKnow_67 (by decide) ?_
          refine lv_iload_n hx hb dX6_mayKnow_68 rfl (lv_at hl 0 rfl) ?_
          refine lv_ishl hx hb dX6_mayKnow_69 ?_
          refine lv_goto (tgt := 74) hx hb dX6_mayKnow_70 (by decide) ?_
          exact j_74 y2 ((1 : Int32) <<< (r_21 &&& 31)) y1 G_22 J_23 _ _ ls hf hH (lv_sub hl [1, 3] rfl)
      refine lv_iload_n hx hb dX6_mayKnow_27 rfl (lv_at hl 2 rfl) ?_
      refine lv_iconst (v := 4) hx hb dX6_mayKnow_28 (by decide) ?_
      refine lv_icmp_ge (tgt := 82) hx hb dX6_mayKnow_29 (by decide) (fun c_26 => ?_) (fun c_26 => ?_)
      · have hf := if_p hf c_26
        exact j_82 y1 G J _ _ ls hf hH (lv_sub hl [1] rfl)
      · have hf := if_n hf c_26
        refine lv_aload_n hx hb dX6_mayKnow_32 rfl (lv_at hl 0 rfl) ?_
        refine gf_RX6_196 C hE hH 0 rfl rfl dX6_mayKnow_33 ?_
        refine lv_if_eq (tgt := 82) hx hb dX6_mayKnow_36 (by decide) (fun c_27 => ?_) (fun c_27 => ?_)
        · have hf := if_p hf c_27
          exact j_82 y1 G J _ _ ls hf hH (lv_sub hl [1] rfl)
        · have hf := if_n hf c_27
          refine lv_iload_n hx hb dX6_mayKnow_39 rfl (lv_at hl 2 rfl) ?_
          refine lv_if_eq (tgt := 51) hx hb dX6_mayKnow_40 (by decide) (fun c_28 => ?_) (fun c_28 => ?_)
          · have hf := if_p hf c_28
            exact j_51 y1 y2 G J _ _ ls hf hH (lv_sub hl [0, 1, 2] rfl)
          · have hf := if_n hf c_28
            refine lv_aload_n hx hb dX6_mayKnow_43 rfl (lv_at hl 0 rfl) ?_
            refine gf_RX6_164 C hE hH 0 rfl rfl dX6_mayKnow_44 ?_
            refine lv_iconst (v := 2) hx hb dX6_mayKnow_47 (by decide) ?_
            refine lv_icmp_ne (tgt := 82) hx hb dX6_mayKnow_48 (by decide) (fun c_29 => ?_) (fun c_29 => ?_)
            · have hf := if_n hf c_29
              exact j_82 y1 G J _ _ ls hf hH (lv_sub hl [1] rfl)
            · have hf := if_p hf c_29
              exact j_51 y1 y2 G J _ _ ls hf hH (lv_sub hl [0, 1, 2] rfl)
  refine lv_aload_n hx hb dX6_mayKnow_0 rfl (lv_at hl 0 rfl) ?_
  refine gf_RX6_196 C hE hH 0 rfl rfl dX6_mayKnow_1 ?_
  refine lv_if_eq (tgt := 17) hx hb dX6_mayKnow_4 (by decide) (fun c_30 => ?_) (fun c_30 => ?_)
  · have hf := if_p hf c_30
    exact j_17 G J _ _ ls hf hH (lv_sub hl [] rfl)
  · have hf := if_n hf c_30
    refine lv_aload_n hx hb dX6_mayKnow_7 rfl (lv_at hl 0 rfl) ?_
    refine W.ldc2 hx hb hown (hT _ tw_33_15) rfl dX6_mayKnow_8 ?_
    refine W.eq (g2 := F0 m 11 ls [.long (6132988 : Int64), .ref (ad 0)]) rfl ?_
    obtain ⟨r_31, hc_32, hf⟩ := bind_inv hf
    refine aftPI (runV C hE hA hH [0, 1, 2, 3, 4, 5, 6, 7, 8, 9, 10, 11] nC_M_M_0_11 (sC_M_M_0_11 g ad G J) (kX6_isWord l g ad _ G J (6132988 : Int64) r_31  hc_32) tw_33_2 tw_33_3 tw_33_4 tw_1_5 tw_33_5 hdX6_isWord 0 rfl rfl rfl rfl ⟨Nat.le_of_ble_eq_true rfl, Nat.le_of_ble_eq_true rfl⟩ rfl hl.1 (rest := []) rfl (Nat.le_of_ble_eq_true rfl) dX6_mayKnow_11 ⟨Nat.zero_le _, Nat.zero_le _⟩) ?_
    refine lv_if_ne (tgt := 19) hx hb dX6_mayKnow_14 (by decide) (fun c_33 => ?_) (fun c_33 => ?_)
    · have hf := if_n hf c_33
      refine lv_aload_n hx hb dX6_mayKnow_19 rfl (lv_at hl 0 rfl) ?_
      obtain ⟨G_34, J_35, hc_36, hf⟩ := bind2_inv hf
      refine aftV (runV C hE hA hH [0, 1, 2, 3, 4, 5, 6, 7, 8, 9, 10, 11] nC_M_M_0_11 (sC_M_M_0_11 g ad G J) (kX6_advance l g ad _ G J G_34 J_35  hc_36) tw_31_14 tw_31_15 tw_31_16 tw_1_5 tw_31_17 hdX6_advance 0 rfl rfl rfl rfl ⟨Nat.le_of_ble_eq_true rfl, Nat.le_of_ble_eq_true rfl⟩ rfl hl.1 (rest := []) rfl (Nat.le_of_ble_eq_true rfl) dX6_mayKnow_20 ⟨Nat.zero_le _, Nat.zero_le _⟩) hA hH [0, 1, 2, 3, 4, 5, 6, 7, 8, 9, 10, 11] [] (sC_M_M_0_11 g ad G J) (sR_M_M_0_11 g ad G J) nR_M_M_0_11 dj_M_M_0_11 [0, 1, 2, 3, 4, 5, 6, 7, 8, 9, 10, 11] nP_M_M_0_11 (sP_M_M_0_11 g ad G J G_34 J_35) (fun H locs hH => ?_)
      refine lv_iconst (v := 0) hx hb dX6_mayKnow_23 (by decide) ?_
      refine lv_istore_n (lv' := [(1, .int (0 : Int32)), (0, .ref (ad 0))]) hx hb dX6_mayKnow_24 rfl hl (by decide) rfl (fun ls hl => ?_)
      refine lv_iconst (v := 0) hx hb dX6_mayKnow_25 (by decide) ?_
      refine lv_istore_n (lv' := [(2, .int (0 : Int32)), (1, .int (0 : Int32)), (0, .ref (ad 0))]) hx hb dX6_mayKnow_26 rfl hl (by decide) rfl (fun ls hl => ?_)
      exact lp_27 _ (0 : Int32) (0 : Int32) G_34 J_35 _ _ ls hf hH (lv_sub hl [2, 1, 0] rfl)
    · have hf := if_p hf c_33
      exact j_17 G J _ _ ls hf hH (lv_sub hl [] rfl)
def fX6_wantOne_c70  (G : M2) (J : J2) : Option (M2 × J2) := some (G, J)
def fX6_wantOne_c51  (y1 : Int32) (y2 : Int32) (G : M2) (J : J2) : Option (M2 × J2) := bind3 (fX6_mayKnow G J) (fun (r_21 : Int32) (G_22 : M2) (J_23 : J2) => (if (G_22 0 7) = 0 then fX6_wantOne_c70  G_22 J_23 else (fX6_adds y1 y2 r_21 G_22 J_23).bind (fun (G_26 : M2) => fX6_wantOne_c70  G_26 J_23)))
def fX6_wantOne_c18  (y1 : Int32) (z0 : Int32) (G : M2) (J : J2) : Option (M2 × J2) := grd (isB z0) (letb (st2 G 0 (upd (G 0) 7 z0)) (fun G_28 : M2 => (if (G_28 0 7) = 0 then some (G_28, J) else bind2 (fX6_advance G_28 J) (fun (G_30 : M2) (J_31 : J2) => (fX6_isWord (419 : Int64) G_30 J_31).bind (fun (r_33 : Int32) => (if r_33 = 0 then fX6_wantOne_c51  y1 (0 : Int32) G_30 J_31 else bind2 (fX6_advance G_30 J_31) (fun (G_36 : M2) (J_37 : J2) => fX6_wantOne_c51  y1 (1 : Int32) G_36 J_37)))))))
def fX6_wantOne (x1 : Int32) (G : M2) (J : J2) : Option (M2 × J2) := grd (inb (6 : Int32) 75) ((if (8 : Int32) ≤ (G 1 (6 : Int32).toNatClampNeg) then fX6_wantOne_c18  x1 (0 : Int32) G J else fX6_wantOne_c18  x1 (1 : Int32) G J))
def rmX6_wantOne : Room := { frames := 5, cells := 0, slots := 0, locals := 109 }
theorem hdX6_wantOne : yX6_wantOne.cls = yX6_wantOne.cls ∧ yX6_wantOne.cls ≠ "java/lang/invoke/MethodHandle" ∧ yX6_wantOne.cls ≠ "java/lang/invoke/VarHandle" ∧ (parseMethodDescriptor yX6_wantOne.desc).map (fun d => d.parameters.length) = some 1 := by decide +kernel
set_option maxHeartbeats 4000000 in
set_option maxRecDepth 100000 in
theorem kX6_wantOne (l : Launch) (g : Gl) (ad : Nat → Nat) (sz : Nat) (G : M2) (J : J2) (x1 : Int32) (G' : M2) (J' : J2)  (hf : fX6_wantOne x1 G J = some (G', J')) : MetV l yX6_wantOne (Cond.code yX6_wantOne cX6_wantOne 4 none :: wsL_law) rmX6_wantOne [.ref (ad 0), .int x1] g (wM g ad G J) sz (wM g ad G' J') := by
  refine openV (by decide +kernel) (Nat.le_of_ble_eq_true rfl) ?_
  intro p e s m args below meth c A C hE hA hH ls hl
  have hl : lv_has ls 4 [(0, .ref (ad 0)), (1, .int x1)] := hl
  have C : Cx p s m args meth c cX6_wantOne 4 none RX6 := C
  obtain ⟨hx, hb, hml, hown, hT, hr, hlk⟩ := id C
  rw [fX6_wantOne] at hf
  have j_18 : ∀ (y1 : Int32) (z0 : Int32) (G : M2) (J : J2) (H : Heap) (locs : List Loc) (ls : Array Slot), fX6_wantOne_c18  y1 z0 G J = some (G', J') → Hp g A s H locs (wM g ad G J) → lv_has ls 4 [(0, .ref (ad 0)), (1, .int y1)] → W p l e rmX6_wantOne s m args below meth c H locs 0 0 (QV g A below args s (wM g ad G' J')) (F0 m 18 ls [.int z0, .ref (ad 0)]) := by
    intro y1 z0 G J H locs  ls hf hH hl
    rw [fX6_wantOne_c18] at hf
    have j_51 : ∀ (y1 : Int32) (y2 : Int32) (G : M2) (J : J2) (H : Heap) (locs : List Loc) (ls : Array Slot), fX6_wantOne_c51  y1 y2 G J = some (G', J') → Hp g A s H locs (wM g ad G J) → lv_has ls 4 [(0, .ref (ad 0)), (1, .int y1), (2, .int y2)] → W p l e rmX6_wantOne s m args below meth c H locs 0 0 (QV g A below args s (wM g ad G' J')) (F0 m 51 ls []) := by
      intro y1 y2 G J H locs  ls hf hH hl
      rw [fX6_wantOne_c51] at hf
      have j_70 : ∀ (G : M2) (J : J2) (H : Heap) (locs : List Loc) (ls : Array Slot), fX6_wantOne_c70  G J = some (G', J') → Hp g A s H locs (wM g ad G J) → lv_has ls 4 [] → W p l e rmX6_wantOne s m args below meth c H locs 0 0 (QV g A below args s (wM g ad G' J')) (F0 m 70 ls []) := by
        intro G J H locs  ls hf hH hl
        rw [fX6_wantOne_c70] at hf
        have hf := Option.some.inj hf
        obtain ⟨h1, h2⟩ := Prod.mk.inj hf
        subst h1
        subst h2
        exact retV C hH dX6_wantOne_70
      refine lv_aload_n hx hb dX6_wantOne_51 rfl (lv_at hl 0 rfl) ?_
      obtain ⟨r_21, G_22, J_23, hc_24, hf⟩ := bind3_inv hf
      refine aftI (runV C hE hA hH [0, 1, 2, 3, 4, 5, 6, 7, 8, 9, 10, 11] nC_M_M_0_11 (sC_M_M_0_11 g ad G J) (kX6_mayKnow l g ad _ G J r_21 G_22 J_23  hc_24) tw_33_11 tw_33_12 tw_33_13 tw_1_5 tw_33_14 hdX6_mayKnow 0 rfl rfl rfl rfl ⟨Nat.le_of_ble_eq_true rfl, Nat.le_of_ble_eq_true rfl⟩ rfl hl.1 (rest := []) rfl (Nat.le_of_ble_eq_true rfl) dX6_wantOne_52 ⟨Nat.zero_le _, Nat.zero_le _⟩) hA hH [0, 1, 2, 3, 4, 5, 6, 7, 8, 9, 10, 11] [] (sC_M_M_0_11 g ad G J) (sR_M_M_0_11 g ad G J) nR_M_M_0_11 dj_M_M_0_11 [0, 1, 2, 3, 4, 5, 6, 7, 8, 9, 10, 11] nP_M_M_0_11 (sP_M_M_0_11 g ad G J G_22 J_23) (fun H locs hH => ?_)
      refine lv_istore_n (lv' := [(3, .int r_21), (0, .ref (ad 0)), (1, .int y1), (2, .int y2)]) hx hb dX6_wantOne_55 rfl hl (by decide) rfl (fun ls hl => ?_)
      refine lv_aload_n hx hb dX6_wantOne_56 rfl (lv_at hl 1 rfl) ?_
      refine gf_RX6_196 C hE hH 0 rfl rfl dX6_wantOne_57 ?_
      refine lv_if_eq (tgt := 70) hx hb dX6_wantOne_60 (by decide) (fun c_25 => ?_) (fun c_25 => ?_)
      · have hf := if_p hf c_25
        exact j_70 G_22 J_23 _ _ ls hf hH (lv_sub hl [] rfl)
      · have hf := if_n hf c_25
        refine lv_aload_n hx hb dX6_wantOne_63 rfl (lv_at hl 1 rfl) ?_
        refine lv_iload_n hx hb dX6_wantOne_64 rfl (lv_at hl 2 rfl) ?_
        refine lv_iload_n hx hb dX6_wantOne_65 rfl (lv_at hl 3 rfl) ?_
        refine lv_iload_n hx hb dX6_wantOne_66 rfl (lv_at hl 0 rfl) ?_
        obtain ⟨G_26, hc_27, hf⟩ := bind_inv hf
        refine aftV (runV C hE hA hH [0, 1, 2, 3, 4, 5, 6, 7, 8, 9, 10, 11] nC_M_M_0_11 (sC_M_M_0_11 g ad G_22 J_23) (kX6_adds l g ad _ G_22 J_23 y1 y2 r_21 G_26  hc_27) tw_8_13 tw_8_14 tw_8_15 tw_1_5 tw_8_16 hdX6_adds 0 rfl rfl rfl rfl ⟨Nat.le_of_ble_eq_true rfl, Nat.le_of_ble_eq_true rfl⟩ rfl hl.1 (rest := []) rfl (Nat.le_of_ble_eq_true rfl) dX6_wantOne_67 ⟨Nat.zero_le _, Nat.zero_le _⟩) hA hH [0, 1, 2, 3, 4, 5, 6, 7, 8, 9, 10, 11] [] (sC_M_M_0_11 g ad G_22 J_23) (sR_M_M_0_11 g ad G_22 J_23) nR_M_M_0_11 dj_M_M_0_11 [0, 1, 2, 3, 4, 5, 6, 7, 8, 9, 10, 11] nP_M_M_0_11 (sP_M_M_0_11 g ad G_22 J_23 G_26 J_23) (fun H locs hH => ?_)
        exact j_70 G_26 J_23 _ _ ls hf hH (lv_sub hl [] rfl)
    obtain ⟨hz, hf⟩ := grd_inv hf
    refine pf_RX6_196 C hE hH 0 rfl (isB_nar hz) (isB_fit hz) (Nat.le_of_ble_eq_true rfl) (fun q : M2 => wM g ad q J) (st2 G 0 (upd (G 0) 7 z0)) rfl dX6_wantOne_18 (fun G_28 eG_28 H locs hH => ?_)
    have hf := letb_at hf G_28 eG_28
    refine lv_aload_n hx hb dX6_wantOne_21 rfl (lv_at hl 0 rfl) ?_
    refine gf_RX6_196 C hE hH 0 rfl rfl dX6_wantOne_22 ?_
    refine lv_if_ne (tgt := 29) hx hb dX6_wantOne_25 (by decide) (fun c_29 => ?_) (fun c_29 => ?_)
    · have hf := if_n hf c_29
      refine lv_aload_n hx hb dX6_wantOne_29 rfl (lv_at hl 0 rfl) ?_
      obtain ⟨G_30, J_31, hc_32, hf⟩ := bind2_inv hf
      refine aftV (runV C hE hA hH [0, 1, 2, 3, 4, 5, 6, 7, 8, 9, 10, 11] nC_M_M_0_11 (sC_M_M_0_11 g ad G_28 J) (kX6_advance l g ad _ G_28 J G_30 J_31  hc_32) tw_31_14 tw_31_15 tw_31_16 tw_1_5 tw_31_17 hdX6_advance 0 rfl rfl rfl rfl ⟨Nat.le_of_ble_eq_true rfl, Nat.le_of_ble_eq_true rfl⟩ rfl hl.1 (rest := []) rfl (Nat.le_of_ble_eq_true rfl) dX6_wantOne_30 ⟨Nat.zero_le _, Nat.zero_le _⟩) hA hH [0, 1, 2, 3, 4, 5, 6, 7, 8, 9, 10, 11] [] (sC_M_M_0_11 g ad G_28 J) (sR_M_M_0_11 g ad G_28 J) nR_M_M_0_11 dj_M_M_0_11 [0, 1, 2, 3, 4, 5, 6, 7, 8, 9, 10, 11] nP_M_M_0_11 (sP_M_M_0_11 g ad G_28 J G_30 J_31) (fun H locs hH => ?_)
      refine lv_iconst (v := 0) hx hb dX6_wantOne_33 (by decide) ?_
      refine lv_istore_n (lv' := [(2, .int (0 : Int32)), (0, .ref (ad 0)), (1, .int y1)]) hx hb dX6_wantOne_34 rfl hl (by decide) rfl (fun ls hl => ?_)
      refine lv_aload_n hx hb dX6_wantOne_35 rfl (lv_at hl 1 rfl) ?_
      refine W.ldc2 hx hb hown (hT _ tw_33_10) rfl dX6_wantOne_36 ?_
      refine W.eq (g2 := F0 m 39 ls [.long (419 : Int64), .ref (ad 0)]) rfl ?_
      obtain ⟨r_33, hc_34, hf⟩ := bind_inv hf
      refine aftPI (runV C hE hA hH [0, 1, 2, 3, 4, 5, 6, 7, 8, 9, 10, 11] nC_M_M_0_11 (sC_M_M_0_11 g ad G_30 J_31) (kX6_isWord l g ad _ G_30 J_31 (419 : Int64) r_33  hc_34) tw_33_2 tw_33_3 tw_33_4 tw_1_5 tw_33_5 hdX6_isWord 0 rfl rfl rfl rfl ⟨Nat.le_of_ble_eq_true rfl, Nat.le_of_ble_eq_true rfl⟩ rfl hl.1 (rest := []) rfl (Nat.le_of_ble_eq_true rfl) dX6_wantOne_39 ⟨Nat.zero_le _, Nat.zero_le _⟩) ?_
      refine lv_if_eq (tgt := 51) hx hb dX6_wantOne_42 (by decide) (fun c_35 => ?_) (fun c_35 => ?_)
      · have hf := if_p hf c_35
        exact j_51 y1 (0 : Int32) G_30 J_31 _ _ ls hf hH (lv_sub hl [1, 2, 0] rfl)
      · have hf := if_n hf c_35
        refine lv_aload_n hx hb dX6_wantOne_45 rfl (lv_at hl 1 rfl) ?_
        obtain ⟨G_36, J_37, hc_38, hf⟩ := bind2_inv hf
        refine aftV (runV C hE hA hH [0, 1, 2, 3, 4, 5, 6, 7, 8, 9, 10, 11] nC_M_M_0_11 (sC_M_M_0_11 g ad G_30 J_31) (kX6_advance l g ad _ G_30 J_31 G_36 J_37  hc_38) tw_31_14 tw_31_15 tw_31_16 tw_1_5 tw_31_17 hdX6_advance 0 rfl rfl rfl rfl ⟨Nat.le_of_ble_eq_true rfl, Nat.le_of_ble_eq_true rfl⟩ rfl hl.1 (rest := []) rfl (Nat.le_of_ble_eq_true rfl) dX6_wantOne_46 ⟨Nat.zero_le _, Nat.zero_le _⟩) hA hH [0, 1, 2, 3, 4, 5, 6, 7, 8, 9, 10, 11] [] (sC_M_M_0_11 g ad G_30 J_31) (sR_M_M_0_11 g ad G_30 J_31) nR_M_M_0_11 dj_M_M_0_11 [0, 1, 2, 3, 4, 5, 6, 7, 8, 9, 10, 11] nP_M_M_0_11 (sP_M_M_0_11 g ad G_30 J_31 G_36 J_37) (fun H locs hH => ?_)
        refine lv_iconst (v := 1) hx hb dX6_wantOne_49 (by decide) ?_
        refine lv_istore_n (lv' := [(2, .int (1 : Int32)), (0, .ref (ad 0)), (1, .int y1)]) hx hb dX6_wantOne_50 rfl hl (by decide) rfl (fun ls hl => ?_)
        exact j_51 y1 (1 : Int32) G_36 J_37 _ _ ls hf hH (lv_sub hl [1, 2, 0] rfl)
    · have hf := if_p hf c_29
      have hf := Option.some.inj hf
      obtain ⟨h1, h2⟩ := Prod.mk.inj hf
      subst h1
      subst h2
      exact retV C hH dX6_wantOne_28
  refine lv_aload_n hx hb dX6_wantOne_0 rfl (lv_at hl 0 rfl) ?_
  refine lv_aload_n hx hb dX6_wantOne_1 rfl (lv_at hl 0 rfl) ?_
  refine gf_RX6_7 C hE hH 0 rfl rfl dX6_wantOne_2 ?_
  refine lv_bipush (v := 6) hx hb dX6_wantOne_5 (by decide) ?_
  obtain ⟨hi_39, hf⟩ := grd_inv hf
  refine xiald C hE hH 1 rfl hi_39 dX6_wantOne_7 ?_
  refine lv_bipush (v := 8) hx hb dX6_wantOne_8 (by decide) ?_
  refine lv_icmp_ge (tgt := 17) hx hb dX6_wantOne_10 (by decide) (fun c_40 => ?_) (fun c_40 => ?_)
  · have hf := if_p hf c_40
    refine lv_iconst (v := 0) hx hb dX6_wantOne_17 (by decide) ?_
    exact j_18 x1 (0 : Int32) G J _ _ ls hf hH (lv_sub hl [0, 1] rfl)
  · have hf := if_n hf c_40
    refine lv_iconst (v := 1) hx hb dX6_wantOne_13 (by decide) ?_
    refine lv_goto (tgt := 18) hx hb dX6_wantOne_14 (by decide) ?_
    exact j_18 x1 (1 : Int32) G J _ _ ls hf hH (lv_sub hl [0, 1] rfl)
def fX6_wantLight_c35  (z0 : Int32) (z1 : Int32) (G : M2) (J : J2) : Option (M2 × J2) := grd (inb z1 75) (letb (st2 G 1 (upd (G 1) z1.toNatClampNeg z0)) (fun G_13 : M2 => some (G_13, J)))
def fX6_wantLight (x1 : Int32) (x2 : Int32) (x3 : Int32) (G : M2) (J : J2) : Option (M2 × J2) := bind2 (fX6_advance G J) (fun (G_14 : M2) (J_15 : J2) => bind3 (fX6_wantNumber x2 x3 G_14 J_15) (fun (r_17 : Int32) (G_18 : M2) (J_19 : J2) => (if (G_18 0 7) = 0 then grd (inb x1 75) (fX6_wantLight_c35  (G_18 1 x1.toNatClampNeg) x1 G_18 J_19) else fX6_wantLight_c35  r_17 x1 G_18 J_19)))
def rmX6_wantLight : Room := { frames := 4, cells := 0, slots := 0, locals := 86 }
theorem hdX6_wantLight : yX6_wantLight.cls = yX6_wantLight.cls ∧ yX6_wantLight.cls ≠ "java/lang/invoke/MethodHandle" ∧ yX6_wantLight.cls ≠ "java/lang/invoke/VarHandle" ∧ (parseMethodDescriptor yX6_wantLight.desc).map (fun d => d.parameters.length) = some 3 := by decide +kernel
set_option maxHeartbeats 4000000 in
set_option maxRecDepth 100000 in
theorem kX6_wantLight (l : Launch) (g : Gl) (ad : Nat → Nat) (sz : Nat) (G : M2) (J : J2) (x1 : Int32) (x2 : Int32) (x3 : Int32) (G' : M2) (J' : J2)  (hf : fX6_wantLight x1 x2 x3 G J = some (G', J')) : MetV l yX6_wantLight (Cond.code yX6_wantLight cX6_wantLight 5 none :: wsL_law) rmX6_wantLight [.ref (ad 0), .int x1, .int x2, .int x3] g (wM g ad G J) sz (wM g ad G' J') := by
  refine openV (by decide +kernel) (Nat.le_of_ble_eq_true rfl) ?_
  intro p e s m args below meth c A C hE hA hH ls hl
  have hl : lv_has ls 5 [(0, .ref (ad 0)), (1, .int x1), (2, .int x2), (3, .int x3)] := hl
  have C : Cx p s m args meth c cX6_wantLight 5 none RX6 := C
  obtain ⟨hx, hb, hml, hown, hT, hr, hlk⟩ := id C
  rw [fX6_wantLight] at hf
  have j_35 : ∀ (z0 : Int32) (z1 : Int32) (G : M2) (J : J2) (H : Heap) (locs : List Loc) (ls : Array Slot), fX6_wantLight_c35  z0 z1 G J = some (G', J') → Hp g A s H locs (wM g ad G J) → lv_has ls 5 [] → W p l e rmX6_wantLight s m args below meth c H locs 0 0 (QV g A below args s (wM g ad G' J')) (F0 m 35 ls [.int z0, .int z1, .ref (ad 1)]) := by
    intro z0 z1 G J H locs  ls hf hH hl
    rw [fX6_wantLight_c35] at hf
    obtain ⟨hi_12, hf⟩ := grd_inv hf
    refine xiast C hE hH 1 rfl hi_12 (fun q : M2 => wM g ad q J) (st2 G 1 (upd (G 1) z1.toNatClampNeg z0)) rfl dX6_wantLight_35 (fun G_13 eG_13 H locs hH => ?_)
    have hf := letb_at hf G_13 eG_13
    have hf := Option.some.inj hf
    obtain ⟨h1, h2⟩ := Prod.mk.inj hf
    subst h1
    subst h2
    exact retV C hH dX6_wantLight_36
  refine lv_aload_n hx hb dX6_wantLight_0 rfl (lv_at hl 0 rfl) ?_
  obtain ⟨G_14, J_15, hc_16, hf⟩ := bind2_inv hf
  refine aftV (runV C hE hA hH [0, 1, 2, 3, 4, 5, 6, 7, 8, 9, 10, 11] nC_M_M_0_11 (sC_M_M_0_11 g ad G J) (kX6_advance l g ad _ G J G_14 J_15  hc_16) tw_31_14 tw_31_15 tw_31_16 tw_1_5 tw_31_17 hdX6_advance 0 rfl rfl rfl rfl ⟨Nat.le_of_ble_eq_true rfl, Nat.le_of_ble_eq_true rfl⟩ rfl hl.1 (rest := []) rfl (Nat.le_of_ble_eq_true rfl) dX6_wantLight_1 ⟨Nat.zero_le _, Nat.zero_le _⟩) hA hH [0, 1, 2, 3, 4, 5, 6, 7, 8, 9, 10, 11] [] (sC_M_M_0_11 g ad G J) (sR_M_M_0_11 g ad G J) nR_M_M_0_11 dj_M_M_0_11 [0, 1, 2, 3, 4, 5, 6, 7, 8, 9, 10, 11] nP_M_M_0_11 (sP_M_M_0_11 g ad G J G_14 J_15) (fun H locs hH => ?_)
  refine lv_aload_n hx hb dX6_wantLight_4 rfl (lv_at hl 0 rfl) ?_
  refine lv_iload_n hx hb dX6_wantLight_5 rfl (lv_at hl 2 rfl) ?_
  refine lv_iload_n hx hb dX6_wantLight_6 rfl (lv_at hl 3 rfl) ?_
  obtain ⟨r_17, G_18, J_19, hc_20, hf⟩ := bind3_inv hf
  refine aftI (runV C hE hA hH [0, 1, 2, 3, 4, 5, 6, 7, 8, 9, 10, 11] nC_M_M_0_11 (sC_M_M_0_11 g ad G_14 J_15) (kX6_wantNumber l g ad _ G_14 J_15 x2 x3 r_17 G_18 J_19  hc_20) tw_33_16 tw_33_17 tw_33_18 tw_1_5 tw_33_19 hdX6_wantNumber 0 rfl rfl rfl rfl ⟨Nat.le_of_ble_eq_true rfl, Nat.le_of_ble_eq_true rfl⟩ rfl hl.1 (rest := []) rfl (Nat.le_of_ble_eq_true rfl) dX6_wantLight_7 ⟨Nat.zero_le _, Nat.zero_le _⟩) hA hH [0, 1, 2, 3, 4, 5, 6, 7, 8, 9, 10, 11] [] (sC_M_M_0_11 g ad G_14 J_15) (sR_M_M_0_11 g ad G_14 J_15) nR_M_M_0_11 dj_M_M_0_11 [0, 1, 2, 3, 4, 5, 6, 7, 8, 9, 10, 11] nP_M_M_0_11 (sP_M_M_0_11 g ad G_14 J_15 G_18 J_19) (fun H locs hH => ?_)
  refine lv_istore (lv' := [(4, .int r_17), (0, .ref (ad 0)), (1, .int x1), (2, .int x2), (3, .int x3)]) hx hb dX6_wantLight_10 hl (by decide) rfl (fun ls hl => ?_)
  refine lv_aload_n hx hb dX6_wantLight_12 rfl (lv_at hl 1 rfl) ?_
  refine gf_RX6_7 C hE hH 0 rfl rfl dX6_wantLight_13 ?_
  refine lv_iload_n hx hb dX6_wantLight_16 rfl (lv_at hl 2 rfl) ?_
  refine lv_aload_n hx hb dX6_wantLight_17 rfl (lv_at hl 1 rfl) ?_
  refine gf_RX6_196 C hE hH 0 rfl rfl dX6_wantLight_18 ?_
  refine lv_if_eq (tgt := 29) hx hb dX6_wantLight_21 (by decide) (fun c_21 => ?_) (fun c_21 => ?_)
  · have hf := if_p hf c_21
    refine lv_aload_n hx hb dX6_wantLight_29 rfl (lv_at hl 1 rfl) ?_
    refine gf_RX6_7 C hE hH 0 rfl rfl dX6_wantLight_30 ?_
    refine lv_iload_n hx hb dX6_wantLight_33 rfl (lv_at hl 2 rfl) ?_
    obtain ⟨hi_22, hf⟩ := grd_inv hf
    refine xiald C hE hH 1 rfl hi_22 dX6_wantLight_34 ?_
    exact j_35 (G_18 1 x1.toNatClampNeg) x1 G_18 J_19 _ _ ls hf hH (lv_sub hl [] rfl)
  · have hf := if_n hf c_21
    refine lv_iload hx hb dX6_wantLight_24 (lv_at hl 0 rfl) ?_
    refine lv_goto (tgt := 35) hx hb dX6_wantLight_26 (by decide) ?_
    exact j_35 r_17 x1 G_18 J_19 _ _ ls hf hH (lv_sub hl [] rfl)
def fX6_wantItem_c147  (G : M2) (J : J2) : Option (M2 × J2) := some (G, J)
def fX6_wantItem_c76  (G : M2) (J : J2) : Option (M2 × J2) := fX6_wantItem_c147  G J
def fX6_wantItem_c58  (y1 : Int32) (z0 : Int32) (G : M2) (J : J2) : Option (M2 × J2) := (if (G 0 7) = 0 then fX6_wantItem_c76  G J else grd (inb ((7 : Int32) + y1) 75) (letb (st2 G 1 (upd (G 1) ((7 : Int32) + y1).toNatClampNeg z0)) (fun G_48 : M2 => fX6_wantItem_c76  G_48 J)))
def fX6_wantItem (G : M2) (J : J2) : Option (M2 × J2) := (fX6_kindHere G J).bind (fun (r_49 : Int32) => (if r_49 < 0 then (fX6_isWord (13987 : Int64) G J).bind (fun (r_52 : Int32) => (if r_52 = 0 then (fX6_isWord (365321 : Int64) G J).bind (fun (r_55 : Int32) => (if r_55 = 0 then (fX6_isWord (11190 : Int64) G J).bind (fun (r_58 : Int32) => (if r_58 = 0 then (fX6_isWord (43138 : Int64) G J).bind (fun (r_61 : Int32) => (if r_61 = 0 then letb (st2 G 0 (upd (G 0) 7 (0 : Int32))) (fun G_64 : M2 => fX6_wantItem_c147  G_64 J) else bind2 (fX6_wantLight (3 : Int32) (1 : Int32) (3 : Int32) G J) (fun (G_65 : M2) (J_66 : J2) => fX6_wantItem_c147  G_65 J_66))) else bind2 (fX6_wantLight (2 : Int32) (0 : Int32) (9999 : Int32) G J) (fun (G_68 : M2) (J_69 : J2) => fX6_wantItem_c147  G_68 J_69))) else bind2 (fX6_wantLight (1 : Int32) (0 : Int32) (12 : Int32) G J) (fun (G_71 : M2) (J_72 : J2) => fX6_wantItem_c147  G_71 J_72))) else bind2 (fX6_advance G J) (fun (G_74 : M2) (J_75 : J2) => bind3 (fX6_wantNumber (0 : Int32) (27 : Int32) G_74 J_75) (fun (r_77 : Int32) (G_78 : M2) (J_79 : J2) => (if (G_78 0 7) = 0 then fX6_wantItem_c58  r_77 (0 : Int32) G_78 J_79 else bind3 (fX6_wantNumber (0 : Int32) (12 : Int32) G_78 J_79) (fun (r_82 : Int32) (G_83 : M2) (J_84 : J2) => fX6_wantItem_c58  r_77 r_82 G_83 J_84)))))) else (fX6_kindHere G J).bind (fun (r_86 : Int32) => bind2 (fX6_wantOne r_86 G J) (fun (G_88 : M2) (J_89 : J2) => fX6_wantItem_c147  G_88 J_89))))
def rmX6_wantItem : Room := { frames := 6, cells := 0, slots := 0, locals := 132 }
theorem hdX6_wantItem : yX6_wantItem.cls = yX6_wantItem.cls ∧ yX6_wantItem.cls ≠ "java/lang/invoke/MethodHandle" ∧ yX6_wantItem.cls ≠ "java/lang/invoke/VarHandle" ∧ (parseMethodDescriptor yX6_wantItem.desc).map (fun d => d.parameters.length) = some 0 := by decide +kernel
set_option maxHeartbeats 4000000 in
set_option maxRecDepth 100000 in
theorem kX6_wantItem (l : Launch) (g : Gl) (ad : Nat → Nat) (sz : Nat) (G : M2) (J : J2)  (G' : M2) (J' : J2)  (hf : fX6_wantItem G J = some (G', J')) : MetV l yX6_wantItem (Cond.code yX6_wantItem cX6_wantItem 3 none :: wsL_law) rmX6_wantItem [.ref (ad 0)] g (wM g ad G J) sz (wM g ad G' J') := by
  refine openV (by decide +kernel) (Nat.le_of_ble_eq_true rfl) ?_
  intro p e s m args below meth c A C hE hA hH ls hl
  have hl : lv_has ls 3 [(0, .ref (ad 0))] := hl
  have C : Cx p s m args meth c cX6_wantItem 3 none RX6 := C
  obtain ⟨hx, hb, hml, hown, hT, hr, hlk⟩ := id C
  rw [fX6_wantItem] at hf
  have j_147 : ∀ (G : M2) (J : J2) (H : Heap) (locs : List Loc) (ls : Array Slot), fX6_wantItem_c147  G J = some (G', J') → Hp g A s H locs (wM g ad G J) → lv_has ls 3 [] → W p l e rmX6_wantItem s m args below meth c H locs 0 0 (QV g A below args s (wM g ad G' J')) (F0 m 147 ls []) := by
    intro G J H locs  ls hf hH hl
    rw [fX6_wantItem_c147] at hf
    have hf := Option.some.inj hf
    obtain ⟨h1, h2⟩ := Prod.mk.inj hf
    subst h1
    subst h2
    exact retV C hH dX6_wantItem_147
  have j_58 : ∀ (y1 : Int32) (z0 : Int32) (G : M2) (J : J2) (H : Heap) (locs : List Loc) (ls : Array Slot), fX6_wantItem_c58  y1 z0 G J = some (G', J') → Hp g A s H locs (wM g ad G J) → lv_has ls 3 [(0, .ref (ad 0)), (1, .int y1)] → W p l e rmX6_wantItem s m args below meth c H locs 0 0 (QV g A below args s (wM g ad G' J')) (F0 m 58 ls [.int z0]) := by
    intro y1 z0 G J H locs  ls hf hH hl
    rw [fX6_wantItem_c58] at hf
    have j_76 : ∀ (G : M2) (J : J2) (H : Heap) (locs : List Loc) (ls : Array Slot), fX6_wantItem_c76  G J = some (G', J') → Hp g A s H locs (wM g ad G J) → lv_has ls 3 [] → W p l e rmX6_wantItem s m args below meth c H locs 0 0 (QV g A below args s (wM g ad G' J')) (F0 m 76 ls []) := by
      intro G J H locs  ls hf hH hl
      rw [fX6_wantItem_c76] at hf
      refine lv_goto (tgt := 147) hx hb dX6_wantItem_76 (by decide) ?_
      exact j_147 G J _ _ ls hf hH (lv_sub hl [] rfl)
    refine lv_istore_n (lv' := [(2, .int z0), (0, .ref (ad 0)), (1, .int y1)]) hx hb dX6_wantItem_58 rfl hl (by decide) rfl (fun ls hl => ?_)
    refine lv_aload_n hx hb dX6_wantItem_59 rfl (lv_at hl 1 rfl) ?_
    refine gf_RX6_196 C hE hH 0 rfl rfl dX6_wantItem_60 ?_
    refine lv_if_eq (tgt := 76) hx hb dX6_wantItem_63 (by decide) (fun c_46 => ?_) (fun c_46 => ?_)
    · have hf := if_p hf c_46
      exact j_76 G J _ _ ls hf hH (lv_sub hl [] rfl)
    · have hf := if_n hf c_46
      refine lv_aload_n hx hb dX6_wantItem_66 rfl (lv_at hl 1 rfl) ?_
      refine gf_RX6_7 C hE hH 0 rfl rfl dX6_wantItem_67 ?_
      refine lv_bipush (v := 7) hx hb dX6_wantItem_70 (by decide) ?_
      refine lv_iload_n hx hb dX6_wantItem_72 rfl (lv_at hl 2 rfl) ?_
      refine lv_iadd hx hb dX6_wantItem_73 ?_
      refine lv_iload_n hx hb dX6_wantItem_74 rfl (lv_at hl 0 rfl) ?_
      obtain ⟨hi_47, hf⟩ := grd_inv hf
      refine xiast C hE hH 1 rfl hi_47 (fun q : M2 => wM g ad q J) (st2 G 1 (upd (G 1) ((7 : Int32) + y1).toNatClampNeg z0)) rfl dX6_wantItem_75 (fun G_48 eG_48 H locs hH => ?_)
      have hf := letb_at hf G_48 eG_48
      exact j_76 G_48 J _ _ ls hf hH (lv_sub hl [] rfl)
  refine lv_aload_n hx hb dX6_wantItem_0 rfl (lv_at hl 0 rfl) ?_
  obtain ⟨r_49, hc_50, hf⟩ := bind_inv hf
  refine aftPI (runV C hE hA hH [0, 1, 2, 3, 4, 5, 6, 7, 8, 9, 10, 11] nC_M_M_0_11 (sC_M_M_0_11 g ad G J) (kX6_kindHere l g ad _ G J r_49  hc_50) tw_32_16 tw_32_17 tw_32_18 tw_1_5 tw_32_19 hdX6_kindHere 0 rfl rfl rfl rfl ⟨Nat.le_of_ble_eq_true rfl, Nat.le_of_ble_eq_true rfl⟩ rfl hl.1 (rest := []) rfl (Nat.le_of_ble_eq_true rfl) dX6_wantItem_1 ⟨Nat.zero_le _, Nat.zero_le _⟩) ?_
  refine lv_if_lt (tgt := 18) hx hb dX6_wantItem_4 (by decide) (fun c_51 => ?_) (fun c_51 => ?_)
  · have hf := if_p hf c_51
    refine lv_aload_n hx hb dX6_wantItem_18 rfl (lv_at hl 0 rfl) ?_
    refine W.ldc2 hx hb hown (hT _ tw_32_12) rfl dX6_wantItem_19 ?_
    refine W.eq (g2 := F0 m 22 ls [.long (13987 : Int64), .ref (ad 0)]) rfl ?_
    obtain ⟨r_52, hc_53, hf⟩ := bind_inv hf
    refine aftPI (runV C hE hA hH [0, 1, 2, 3, 4, 5, 6, 7, 8, 9, 10, 11] nC_M_M_0_11 (sC_M_M_0_11 g ad G J) (kX6_isWord l g ad _ G J (13987 : Int64) r_52  hc_53) tw_33_2 tw_33_3 tw_33_4 tw_1_5 tw_33_5 hdX6_isWord 0 rfl rfl rfl rfl ⟨Nat.le_of_ble_eq_true rfl, Nat.le_of_ble_eq_true rfl⟩ rfl hl.1 (rest := []) rfl (Nat.le_of_ble_eq_true rfl) dX6_wantItem_22 ⟨Nat.zero_le _, Nat.zero_le _⟩) ?_
    refine lv_if_eq (tgt := 79) hx hb dX6_wantItem_25 (by decide) (fun c_54 => ?_) (fun c_54 => ?_)
    · have hf := if_p hf c_54
      refine lv_aload_n hx hb dX6_wantItem_79 rfl (lv_at hl 0 rfl) ?_
      refine W.ldc2 hx hb hown (hT _ tw_32_13) rfl dX6_wantItem_80 ?_
      refine W.eq (g2 := F0 m 83 ls [.long (365321 : Int64), .ref (ad 0)]) rfl ?_
      obtain ⟨r_55, hc_56, hf⟩ := bind_inv hf
      refine aftPI (runV C hE hA hH [0, 1, 2, 3, 4, 5, 6, 7, 8, 9, 10, 11] nC_M_M_0_11 (sC_M_M_0_11 g ad G J) (kX6_isWord l g ad _ G J (365321 : Int64) r_55  hc_56) tw_33_2 tw_33_3 tw_33_4 tw_1_5 tw_33_5 hdX6_isWord 0 rfl rfl rfl rfl ⟨Nat.le_of_ble_eq_true rfl, Nat.le_of_ble_eq_true rfl⟩ rfl hl.1 (rest := []) rfl (Nat.le_of_ble_eq_true rfl) dX6_wantItem_83 ⟨Nat.zero_le _, Nat.zero_le _⟩) ?_
      refine lv_if_eq (tgt := 100) hx hb dX6_wantItem_86 (by decide) (fun c_57 => ?_) (fun c_57 => ?_)
      · have hf := if_p hf c_57
        refine lv_aload_n hx hb dX6_wantItem_100 rfl (lv_at hl 0 rfl) ?_
        refine W.ldc2 hx hb hown (hT _ tw_32_14) rfl dX6_wantItem_101 ?_
        refine W.eq (g2 := F0 m 104 ls [.long (11190 : Int64), .ref (ad 0)]) rfl ?_
        obtain ⟨r_58, hc_59, hf⟩ := bind_inv hf
        refine aftPI (runV C hE hA hH [0, 1, 2, 3, 4, 5, 6, 7, 8, 9, 10, 11] nC_M_M_0_11 (sC_M_M_0_11 g ad G J) (kX6_isWord l g ad _ G J (11190 : Int64) r_58  hc_59) tw_33_2 tw_33_3 tw_33_4 tw_1_5 tw_33_5 hdX6_isWord 0 rfl rfl rfl rfl ⟨Nat.le_of_ble_eq_true rfl, Nat.le_of_ble_eq_true rfl⟩ rfl hl.1 (rest := []) rfl (Nat.le_of_ble_eq_true rfl) dX6_wantItem_104 ⟨Nat.zero_le _, Nat.zero_le _⟩) ?_
        refine lv_if_eq (tgt := 122) hx hb dX6_wantItem_107 (by decide) (fun c_60 => ?_) (fun c_60 => ?_)
        · have hf := if_p hf c_60
          refine lv_aload_n hx hb dX6_wantItem_122 rfl (lv_at hl 0 rfl) ?_
          refine W.ldc2 hx hb hown (hT _ tw_32_15) rfl dX6_wantItem_123 ?_
          refine W.eq (g2 := F0 m 126 ls [.long (43138 : Int64), .ref (ad 0)]) rfl ?_
          obtain ⟨r_61, hc_62, hf⟩ := bind_inv hf
          refine aftPI (runV C hE hA hH [0, 1, 2, 3, 4, 5, 6, 7, 8, 9, 10, 11] nC_M_M_0_11 (sC_M_M_0_11 g ad G J) (kX6_isWord l g ad _ G J (43138 : Int64) r_61  hc_62) tw_33_2 tw_33_3 tw_33_4 tw_1_5 tw_33_5 hdX6_isWord 0 rfl rfl rfl rfl ⟨Nat.le_of_ble_eq_true rfl, Nat.le_of_ble_eq_true rfl⟩ rfl hl.1 (rest := []) rfl (Nat.le_of_ble_eq_true rfl) dX6_wantItem_126 ⟨Nat.zero_le _, Nat.zero_le _⟩) ?_
          refine lv_if_eq (tgt := 142) hx hb dX6_wantItem_129 (by decide) (fun c_63 => ?_) (fun c_63 => ?_)
          · have hf := if_p hf c_63
            refine lv_aload_n hx hb dX6_wantItem_142 rfl (lv_at hl 0 rfl) ?_
            refine lv_iconst (v := 0) hx hb dX6_wantItem_143 (by decide) ?_
            refine pf_RX6_196 C hE hH 0 rfl (by decide) (by decide) (Nat.le_of_ble_eq_true rfl) (fun q : M2 => wM g ad q J) (st2 G 0 (upd (G 0) 7 (0 : Int32))) rfl dX6_wantItem_144 (fun G_64 eG_64 H locs hH => ?_)
            have hf := letb_at hf G_64 eG_64
            exact j_147 G_64 J _ _ ls hf hH (lv_sub hl [] rfl)
          · have hf := if_n hf c_63
            refine lv_aload_n hx hb dX6_wantItem_132 rfl (lv_at hl 0 rfl) ?_
            refine lv_iconst (v := 3) hx hb dX6_wantItem_133 (by decide) ?_
            refine lv_iconst (v := 1) hx hb dX6_wantItem_134 (by decide) ?_
            refine lv_iconst (v := 3) hx hb dX6_wantItem_135 (by decide) ?_
            obtain ⟨G_65, J_66, hc_67, hf⟩ := bind2_inv hf
            refine aftV (runV C hE hA hH [0, 1, 2, 3, 4, 5, 6, 7, 8, 9, 10, 11] nC_M_M_0_11 (sC_M_M_0_11 g ad G J) (kX6_wantLight l g ad _ G J (3 : Int32) (1 : Int32) (3 : Int32) G_65 J_66  hc_67) tw_33_20 tw_33_21 tw_33_22 tw_1_5 tw_33_23 hdX6_wantLight 0 rfl rfl rfl rfl ⟨Nat.le_of_ble_eq_true rfl, Nat.le_of_ble_eq_true rfl⟩ rfl hl.1 (rest := []) rfl (Nat.le_of_ble_eq_true rfl) dX6_wantItem_136 ⟨Nat.zero_le _, Nat.zero_le _⟩) hA hH [0, 1, 2, 3, 4, 5, 6, 7, 8, 9, 10, 11] [] (sC_M_M_0_11 g ad G J) (sR_M_M_0_11 g ad G J) nR_M_M_0_11 dj_M_M_0_11 [0, 1, 2, 3, 4, 5, 6, 7, 8, 9, 10, 11] nP_M_M_0_11 (sP_M_M_0_11 g ad G J G_65 J_66) (fun H locs hH => ?_)
            refine lv_goto (tgt := 147) hx hb dX6_wantItem_139 (by decide) ?_
            exact j_147 G_65 J_66 _ _ ls hf hH (lv_sub hl [] rfl)
        · have hf := if_n hf c_60
          refine lv_aload_n hx hb dX6_wantItem_110 rfl (lv_at hl 0 rfl) ?_
          refine lv_iconst (v := 2) hx hb dX6_wantItem_111 (by decide) ?_
          refine lv_iconst (v := 0) hx hb dX6_wantItem_112 (by decide) ?_
          refine lv_sipush (v := 9999) hx hb dX6_wantItem_113 (by decide) ?_
          obtain ⟨G_68, J_69, hc_70, hf⟩ := bind2_inv hf
          refine aftV (runV C hE hA hH [0, 1, 2, 3, 4, 5, 6, 7, 8, 9, 10, 11] nC_M_M_0_11 (sC_M_M_0_11 g ad G J) (kX6_wantLight l g ad _ G J (2 : Int32) (0 : Int32) (9999 : Int32) G_68 J_69  hc_70) tw_33_20 tw_33_21 tw_33_22 tw_1_5 tw_33_23 hdX6_wantLight 0 rfl rfl rfl rfl ⟨Nat.le_of_ble_eq_true rfl, Nat.le_of_ble_eq_true rfl⟩ rfl hl.1 (rest := []) rfl (Nat.le_of_ble_eq_true rfl) dX6_wantItem_116 ⟨Nat.zero_le _, Nat.zero_le _⟩) hA hH [0, 1, 2, 3, 4, 5, 6, 7, 8, 9, 10, 11] [] (sC_M_M_0_11 g ad G J) (sR_M_M_0_11 g ad G J) nR_M_M_0_11 dj_M_M_0_11 [0, 1, 2, 3, 4, 5, 6, 7, 8, 9, 10, 11] nP_M_M_0_11 (sP_M_M_0_11 g ad G J G_68 J_69) (fun H locs hH => ?_)
          refine lv_goto (tgt := 147) hx hb dX6_wantItem_119 (by decide) ?_
          exact j_147 G_68 J_69 _ _ ls hf hH (lv_sub hl [] rfl)
      · have hf := if_n hf c_57
        refine lv_aload_n hx hb dX6_wantItem_89 rfl (lv_at hl 0 rfl) ?_
        refine lv_iconst (v := 1) hx hb dX6_wantItem_90 (by decide) ?_
        refine lv_iconst (v := 0) hx hb dX6_wantItem_91 (by decide) ?_
        refine lv_bipush (v := 12) hx hb dX6_wantItem_92 (by decide) ?_
        obtain ⟨G_71, J_72, hc_73, hf⟩ := bind2_inv hf
        refine aftV (runV C hE hA hH [0, 1, 2, 3, 4, 5, 6, 7, 8, 9, 10, 11] nC_M_M_0_11 (sC_M_M_0_11 g ad G J) (kX6_wantLight l g ad _ G J (1 : Int32) (0 : Int32) (12 : Int32) G_71 J_72  hc_73) tw_33_20 tw_33_21 tw_33_22 tw_1_5 tw_33_23 hdX6_wantLight 0 rfl rfl rfl rfl ⟨Nat.le_of_ble_eq_true rfl, Nat.le_of_ble_eq_true rfl⟩ rfl hl.1 (rest := []) rfl (Nat.le_of_ble_eq_true rfl) dX6_wantItem_94 ⟨Nat.zero_le _, Nat.zero_le _⟩) hA hH [0, 1, 2, 3, 4, 5, 6, 7, 8, 9, 10, 11] [] (sC_M_M_0_11 g ad G J) (sR_M_M_0_11 g ad G J) nR_M_M_0_11 dj_M_M_0_11 [0, 1, 2, 3, 4, 5, 6, 7, 8, 9, 10, 11] nP_M_M_0_11 (sP_M_M_0_11 g ad G J G_71 J_72) (fun H locs hH => ?_)
        refine lv_goto (tgt := 147) hx hb dX6_wantItem_97 (by decide) ?_
        exact j_147 G_71 J_72 _ _ ls hf hH (lv_sub hl [] rfl)
    · have hf := if_n hf c_54
      refine lv_aload_n hx hb dX6_wantItem_28 rfl (lv_at hl 0 rfl) ?_
      obtain ⟨G_74, J_75, hc_76, hf⟩ := bind2_inv hf
      refine aftV (runV C hE hA hH [0, 1, 2, 3, 4, 5, 6, 7, 8, 9, 10, 11] nC_M_M_0_11 (sC_M_M_0_11 g ad G J) (kX6_advance l g ad _ G J G_74 J_75  hc_76) tw_31_14 tw_31_15 tw_31_16 tw_1_5 tw_31_17 hdX6_advance 0 rfl rfl rfl rfl ⟨Nat.le_of_ble_eq_true rfl, Nat.le_of_ble_eq_true rfl⟩ rfl hl.1 (rest := []) rfl (Nat.le_of_ble_eq_true rfl) dX6_wantItem_29 ⟨Nat.zero_le _, Nat.zero_le _⟩) hA hH [0, 1, 2, 3, 4, 5, 6, 7, 8, 9, 10, 11] [] (sC_M_M_0_11 g ad G J) (sR_M_M_0_11 g ad G J) nR_M_M_0_11 dj_M_M_0_11 [0, 1, 2, 3, 4, 5, 6, 7, 8, 9, 10, 11] nP_M_M_0_11 (sP_M_M_0_11 g ad G J G_74 J_75) (fun H locs hH => ?_)
      refine lv_aload_n hx hb dX6_wantItem_32 rfl (lv_at hl 0 rfl) ?_
      refine lv_iconst (v := 0) hx hb dX6_wantItem_33 (by decide) ?_
      refine lv_bipush (v := 27) hx hb dX6_wantItem_34 (by decide) ?_
      obtain ⟨r_77, G_78, J_79, hc_80, hf⟩ := bind3_inv hf
      refine aftI (runV C hE hA hH [0, 1, 2, 3, 4, 5, 6, 7, 8, 9, 10, 11] nC_M_M_0_11 (sC_M_M_0_11 g ad G_74 J_75) (kX6_wantNumber l g ad _ G_74 J_75 (0 : Int32) (27 : Int32) r_77 G_78 J_79  hc_80) tw_33_16 tw_33_17 tw_33_18 tw_1_5 tw_33_19 hdX6_wantNumber 0 rfl rfl rfl rfl ⟨Nat.le_of_ble_eq_true rfl, Nat.le_of_ble_eq_true rfl⟩ rfl hl.1 (rest := []) rfl (Nat.le_of_ble_eq_true rfl) dX6_wantItem_36 ⟨Nat.zero_le _, Nat.zero_le _⟩) hA hH [0, 1, 2, 3, 4, 5, 6, 7, 8, 9, 10, 11] [] (sC_M_M_0_11 g ad G_74 J_75) (sR_M_M_0_11 g ad G_74 J_75) nR_M_M_0_11 dj_M_M_0_11 [0, 1, 2, 3, 4, 5, 6, 7, 8, 9, 10, 11] nP_M_M_0_11 (sP_M_M_0_11 g ad G_74 J_75 G_78 J_79) (fun H locs hH => ?_)
      refine lv_istore_n (lv' := [(1, .int r_77), (0, .ref (ad 0))]) hx hb dX6_wantItem_39 rfl hl (by decide) rfl (fun ls hl => ?_)
      refine lv_aload_n hx hb dX6_wantItem_40 rfl (lv_at hl 1 rfl) ?_
      refine gf_RX6_196 C hE hH 0 rfl rfl dX6_wantItem_41 ?_
      refine lv_if_eq (tgt := 57) hx hb dX6_wantItem_44 (by decide) (fun c_81 => ?_) (fun c_81 => ?_)
      · have hf := if_p hf c_81
        refine lv_iconst (v := 0) hx hb dX6_wantItem_57 (by decide) ?_
        exact j_58 r_77 (0 : Int32) G_78 J_79 _ _ ls hf hH (lv_sub hl [1, 0] rfl)
      · have hf := if_n hf c_81
        refine lv_aload_n hx hb dX6_wantItem_47 rfl (lv_at hl 1 rfl) ?_
        refine lv_iconst (v := 0) hx hb dX6_wantItem_48 (by decide) ?_
        refine lv_bipush (v := 12) hx hb dX6_wantItem_49 (by decide) ?_
        obtain ⟨r_82, G_83, J_84, hc_85, hf⟩ := bind3_inv hf
        refine aftI (runV C hE hA hH [0, 1, 2, 3, 4, 5, 6, 7, 8, 9, 10, 11] nC_M_M_0_11 (sC_M_M_0_11 g ad G_78 J_79) (kX6_wantNumber l g ad _ G_78 J_79 (0 : Int32) (12 : Int32) r_82 G_83 J_84  hc_85) tw_33_16 tw_33_17 tw_33_18 tw_1_5 tw_33_19 hdX6_wantNumber 0 rfl rfl rfl rfl ⟨Nat.le_of_ble_eq_true rfl, Nat.le_of_ble_eq_true rfl⟩ rfl hl.1 (rest := []) rfl (Nat.le_of_ble_eq_true rfl) dX6_wantItem_51 ⟨Nat.zero_le _, Nat.zero_le _⟩) hA hH [0, 1, 2, 3, 4, 5, 6, 7, 8, 9, 10, 11] [] (sC_M_M_0_11 g ad G_78 J_79) (sR_M_M_0_11 g ad G_78 J_79) nR_M_M_0_11 dj_M_M_0_11 [0, 1, 2, 3, 4, 5, 6, 7, 8, 9, 10, 11] nP_M_M_0_11 (sP_M_M_0_11 g ad G_78 J_79 G_83 J_84) (fun H locs hH => ?_)
        refine lv_goto (tgt := 58) hx hb dX6_wantItem_54 (by decide) ?_
        exact j_58 r_77 r_82 G_83 J_84 _ _ ls hf hH (lv_sub hl [1, 0] rfl)
  · have hf := if_n hf c_51
    refine lv_aload_n hx hb dX6_wantItem_7 rfl (lv_at hl 0 rfl) ?_
    refine lv_aload_n hx hb dX6_wantItem_8 rfl (lv_at hl 0 rfl) ?_
    obtain ⟨r_86, hc_87, hf⟩ := bind_inv hf
    refine aftPI (runV C hE hA hH [0, 1, 2, 3, 4, 5, 6, 7, 8, 9, 10, 11] nC_M_M_0_11 (sC_M_M_0_11 g ad G J) (kX6_kindHere l g ad _ G J r_86  hc_87) tw_32_16 tw_32_17 tw_32_18 tw_1_5 tw_32_19 hdX6_kindHere 0 rfl rfl rfl rfl ⟨Nat.le_of_ble_eq_true rfl, Nat.le_of_ble_eq_true rfl⟩ rfl hl.1 (rest := [.ref (ad 0)]) rfl (Nat.le_of_ble_eq_true rfl) dX6_wantItem_9 ⟨Nat.zero_le _, Nat.zero_le _⟩) ?_
    obtain ⟨G_88, J_89, hc_90, hf⟩ := bind2_inv hf
    refine aftV (runV C hE hA hH [0, 1, 2, 3, 4, 5, 6, 7, 8, 9, 10, 11] nC_M_M_0_11 (sC_M_M_0_11 g ad G J) (kX6_wantOne l g ad _ G J r_86 G_88 J_89  hc_90) tw_33_6 tw_33_7 tw_33_8 tw_1_5 tw_33_9 hdX6_wantOne 0 rfl rfl rfl rfl ⟨Nat.le_of_ble_eq_true rfl, Nat.le_of_ble_eq_true rfl⟩ rfl hl.1 (rest := []) rfl (Nat.le_of_ble_eq_true rfl) dX6_wantItem_12 ⟨Nat.zero_le _, Nat.zero_le _⟩) hA hH [0, 1, 2, 3, 4, 5, 6, 7, 8, 9, 10, 11] [] (sC_M_M_0_11 g ad G J) (sR_M_M_0_11 g ad G J) nR_M_M_0_11 dj_M_M_0_11 [0, 1, 2, 3, 4, 5, 6, 7, 8, 9, 10, 11] nP_M_M_0_11 (sP_M_M_0_11 g ad G J G_88 J_89) (fun H locs hH => ?_)
    refine lv_goto (tgt := 147) hx hb dX6_wantItem_15 (by decide) ?_
    exact j_147 G_88 J_89 _ _ ls hf hH (lv_sub hl [] rfl)
def fX6_text_c91  (y1 : Int32) (z0 : Int32) (G : M2) (J : J2) : Option (Int32 × M2 × J2) := grd (isB z0) (letb (st2 G 0 (upd (G 0) 7 z0)) (fun G_23 : M2 => letb (st2 G_23 0 (upd (G_23 0) 2 (0 : Int32))) (fun G_24 : M2 => (if (G_24 0 7) = 0 then (fX6_moveAll_p9 (0 : Int32) G_24 J).bind (fun (G_26 : M2) => some ((-1 : Int32) - (G_26 0 4), G_26, J)) else some (y1, G_24, J)))))
def fX6_text_c90  (y1 : Int32) (G : M2) (J : J2) : Option (Int32 × M2 × J2) := fX6_text_c91  y1 (0 : Int32) G J
def fX6_text_c71  (y1 : Int32) (G : M2) (J : J2) : Option (Int32 × M2 × J2) := (if (G 0 7) = 0 then fX6_text_c90  y1 G J else (if (G 0 3) = 0 then fX6_text_c91  y1 (1 : Int32) G J else fX6_text_c90  y1 G J))
def fX6_text_c67 (k_23 : Int32 → Int32 → M2 → J2 → Option (Int32 × M2 × J2)) (y1 : Int32) (z0 : Int32) (G : M2) (J : J2) : Option (Int32 × M2 × J2) := k_23 y1 z0 G J
def fX6_text_c66 (k_23 : Int32 → Int32 → M2 → J2 → Option (Int32 × M2 × J2)) (y1 : Int32) (G : M2) (J : J2) : Option (Int32 × M2 × J2) := fX6_text_c67 k_23 y1 (0 : Int32) G J
def fX6_text_c23  : Nat → Int32 → Int32 → M2 → J2 → Option (Int32 × M2 × J2)
  | 0, _, _, _, _ => none
  | n + 1, y1, y2, G, J => (if y2 = 0 then fX6_text_c71  y1 G J else bind2 (fX6_advance G J) (fun (G_31 : M2) (J_32 : J2) => bind2 (fX6_wantItem G_31 J_32) (fun (G_34 : M2) (J_35 : J2) => letb (y1 + (1 : Int32)) (fun v_37 : Int32 => (if (G_34 0 7) = 0 then fX6_text_c66 (fX6_text_c23 n) v_37 G_34 J_35 else (if (G_34 0 3) = (3 : Int32) then (if (G_34 0 6) = (59 : Int32) then fX6_text_c67 (fX6_text_c23 n) v_37 (1 : Int32) G_34 J_35 else fX6_text_c66 (fX6_text_c23 n) v_37 G_34 J_35) else fX6_text_c66 (fX6_text_c23 n) v_37 G_34 J_35))))))
def fX6_text (G : M2) (J : J2) : Option (Int32 × M2 × J2) := (fX6_moveAll_p9 (1 : Int32) G J).bind (fun (G_41 : M2) => letb (st2 G_41 0 (upd (G_41 0) 5 (0 : Int32))) (fun G_43 : M2 => letb (st2 G_43 0 (upd (G_43 0) 7 (1 : Int32))) (fun G_44 : M2 => fX6_text_c23  FU (0 : Int32) (1 : Int32) G_44 J)))
def rmX6_text : Room := { frames := 7, cells := 0, slots := 0, locals := 154 }
theorem hdX6_text : yX6_text.cls = yX6_text.cls ∧ yX6_text.cls ≠ "java/lang/invoke/MethodHandle" ∧ yX6_text.cls ≠ "java/lang/invoke/VarHandle" ∧ (parseMethodDescriptor yX6_text.desc).map (fun d => d.parameters.length) = some 0 := by decide +kernel
set_option maxHeartbeats 4000000 in
set_option maxRecDepth 100000 in
theorem kX6_text (l : Launch) (g : Gl) (ad : Nat → Nat) (sz : Nat) (G : M2) (J : J2)  (r : Int32) (G' : M2) (J' : J2)  (hf : fX6_text G J = some (r, G', J')) : MetI l yX6_text (Cond.code yX6_text cX6_text 3 (some .int) :: wsL_law) rmX6_text [.ref (ad 0)] g (wM g ad G J) sz r (wM g ad G' J') := by
  refine openI (by decide +kernel) (Nat.le_of_ble_eq_true rfl) ?_
  intro p e s m args below meth c A C hE hA hH ls hl
  have hl : lv_has ls 3 [(0, .ref (ad 0))] := hl
  have C : Cx p s m args meth c cX6_text 3 (some .int) RX6 := C
  obtain ⟨hx, hb, hml, hown, hT, hr, hlk⟩ := id C
  rw [fX6_text] at hf
  have lp_23 : ∀ (n_23 : Nat) (y1 : Int32) (y2 : Int32) (G : M2) (J : J2) (H : Heap) (locs : List Loc) (ls : Array Slot), fX6_text_c23  n_23 y1 y2 G J = some (r, G', J') → Hp g A s H locs (wM g ad G J) → lv_has ls 3 [(0, .ref (ad 0)), (1, .int y1), (2, .int y2)] → W p l e rmX6_text s m args below meth c H locs 0 0 (QI g A below args s r (wM g ad G' J')) (F0 m 23 ls []) := by
    intro n_23
    induction n_23 with
    | zero =>
      intro y1 y2 G J H locs  ls hf hH hl
      rw [fX6_text_c23] at hf
      cases hf
    | succ n_23 ih_23 =>
      intro y1 y2 G J H locs  ls hf hH hl
      rw [fX6_text_c23] at hf
      have j_71 : ∀ (y1 : Int32) (G : M2) (J : J2) (H : Heap) (locs : List Loc) (ls : Array Slot), fX6_text_c71  y1 G J = some (r, G', J') → Hp g A s H locs (wM g ad G J) → lv_has ls 3 [(0, .ref (ad 0)), (1, .int y1)] → W p l e rmX6_text s m args below meth c H locs 0 0 (QI g A below args s r (wM g ad G' J')) (F0 m 71 ls []) := by
        intro y1 G J H locs  ls hf hH hl
        rw [fX6_text_c71] at hf
        have j_91 : ∀ (y1 : Int32) (z0 : Int32) (G : M2) (J : J2) (H : Heap) (locs : List Loc) (ls : Array Slot), fX6_text_c91  y1 z0 G J = some (r, G', J') → Hp g A s H locs (wM g ad G J) → lv_has ls 3 [(0, .ref (ad 0)), (1, .int y1)] → W p l e rmX6_text s m args below meth c H locs 0 0 (QI g A below args s r (wM g ad G' J')) (F0 m 91 ls [.int z0, .ref (ad 0)]) := by
          intro y1 z0 G J H locs  ls hf hH hl
          rw [fX6_text_c91] at hf
          obtain ⟨hz, hf⟩ := grd_inv hf
          refine pf_RX6_196 C hE hH 0 rfl (isB_nar hz) (isB_fit hz) (Nat.le_of_ble_eq_true rfl) (fun q : M2 => wM g ad q J) (st2 G 0 (upd (G 0) 7 z0)) rfl dX6_text_91 (fun G_23 eG_23 H locs hH => ?_)
          have hf := letb_at hf G_23 eG_23
          refine lv_aload_n hx hb dX6_text_94 rfl (lv_at hl 0 rfl) ?_
          refine lv_iconst (v := 0) hx hb dX6_text_95 (by decide) ?_
          refine pf_RX6_146 C hE hH 0 rfl rfl rfl (Nat.le_of_ble_eq_true rfl) (fun q : M2 => wM g ad q J) (st2 G_23 0 (upd (G_23 0) 2 (0 : Int32))) rfl dX6_text_96 (fun G_24 eG_24 H locs hH => ?_)
          have hf := letb_at hf G_24 eG_24
          refine lv_aload_n hx hb dX6_text_99 rfl (lv_at hl 0 rfl) ?_
          refine gf_RX6_196 C hE hH 0 rfl rfl dX6_text_100 ?_
          refine lv_if_ne (tgt := 122) hx hb dX6_text_103 (by decide) (fun c_25 => ?_) (fun c_25 => ?_)
          · have hf := if_n hf c_25
            refine lv_iload_n hx hb dX6_text_122 rfl (lv_at hl 1 rfl) ?_
            have hf := Option.some.inj hf
            obtain ⟨h1, hf⟩ := Prod.mk.inj hf
            obtain ⟨h2, h3⟩ := Prod.mk.inj hf
            subst h1
            subst h2
            subst h3
            exact retI C hH rfl dX6_text_123
          · have hf := if_p hf c_25
            refine lv_aload_n hx hb dX6_text_106 rfl (lv_at hl 0 rfl) ?_
            refine lv_iconst (v := 0) hx hb dX6_text_107 (by decide) ?_
            refine lv_aload_n hx hb dX6_text_108 rfl (lv_at hl 0 rfl) ?_
            refine gf_RX6_41 C hE hH 0 rfl rfl dX6_text_109 ?_
            obtain ⟨G_26, hc_27, hf⟩ := bind_inv hf
            refine aftV (runV C hE hA hH [0, 1, 2, 3, 4, 5, 6, 7, 8, 9, 10, 11] nC_M_M_0_11 (sC_M_M_0_11 g ad G_24 J) (kX6_moveAll_p9 l g ad _ G_24 J (0 : Int32) G_26  hc_27) tw_19_6 tw_19_7 tw_19_8 tw_1_5 tw_19_9 hdX6_moveAll_p9 0 rfl rfl rfl rfl ⟨Nat.le_of_ble_eq_true rfl, Nat.le_of_ble_eq_true rfl⟩ rfl hl.1 (rest := []) rfl (Nat.le_of_ble_eq_true rfl) dX6_text_112 ⟨Nat.zero_le _, Nat.zero_le _⟩) hA hH [0, 1, 2, 3, 4, 5, 6, 7, 8, 9, 10, 11] [] (sC_M_M_0_11 g ad G_24 J) (sR_M_M_0_11 g ad G_24 J) nR_M_M_0_11 dj_M_M_0_11 [0, 1, 2, 3, 4, 5, 6, 7, 8, 9, 10, 11] nP_M_M_0_11 (sP_M_M_0_11 g ad G_24 J G_26 J) (fun H locs hH => ?_)
            refine lv_iconst (v := (-1)) hx hb dX6_text_115 (by decide) ?_
            refine lv_aload_n hx hb dX6_text_116 rfl (lv_at hl 0 rfl) ?_
            refine gf_RX6_152 C hE hH 0 rfl rfl dX6_text_117 ?_
            refine lv_isub hx hb dX6_text_120 ?_
            have hf := Option.some.inj hf
            obtain ⟨h1, hf⟩ := Prod.mk.inj hf
            obtain ⟨h2, h3⟩ := Prod.mk.inj hf
            subst h1
            subst h2
            subst h3
            exact retI C hH rfl dX6_text_121
        have j_90 : ∀ (y1 : Int32) (G : M2) (J : J2) (H : Heap) (locs : List Loc) (ls : Array Slot), fX6_text_c90  y1 G J = some (r, G', J') → Hp g A s H locs (wM g ad G J) → lv_has ls 3 [(0, .ref (ad 0)), (1, .int y1)] → W p l e rmX6_text s m args below meth c H locs 0 0 (QI g A below args s r (wM g ad G' J')) (F0 m 90 ls [.ref (ad 0)]) := by
          intro y1 G J H locs  ls hf hH hl
          rw [fX6_text_c90] at hf
          refine lv_iconst (v := 0) hx hb dX6_text_90 (by decide) ?_
          exact j_91 y1 (0 : Int32) G J _ _ ls hf hH (lv_sub hl [0, 1] rfl)
        refine lv_aload_n hx hb dX6_text_71 rfl (lv_at hl 0 rfl) ?_
        refine lv_aload_n hx hb dX6_text_72 rfl (lv_at hl 0 rfl) ?_
        refine gf_RX6_196 C hE hH 0 rfl rfl dX6_text_73 ?_
        refine lv_if_eq (tgt := 90) hx hb dX6_text_76 (by decide) (fun c_28 => ?_) (fun c_28 => ?_)
        · have hf := if_p hf c_28
          exact j_90 y1 G J _ _ ls hf hH (lv_sub hl [0, 1] rfl)
        · have hf := if_n hf c_28
          refine lv_aload_n hx hb dX6_text_79 rfl (lv_at hl 0 rfl) ?_
          refine gf_RX6_164 C hE hH 0 rfl rfl dX6_text_80 ?_
          refine lv_if_ne (tgt := 90) hx hb dX6_text_83 (by decide) (fun c_29 => ?_) (fun c_29 => ?_)
          · have hf := if_n hf c_29
            exact j_90 y1 G J _ _ ls hf hH (lv_sub hl [0, 1] rfl)
          · have hf := if_p hf c_29
            refine lv_iconst (v := 1) hx hb dX6_text_86 (by decide) ?_
            refine lv_goto (tgt := 91) hx hb dX6_text_87 (by decide) ?_
            exact j_91 y1 (1 : Int32) G J _ _ ls hf hH (lv_sub hl [0, 1] rfl)
      have j_67 : ∀ (y1 : Int32) (z0 : Int32) (G : M2) (J : J2) (H : Heap) (locs : List Loc) (ls : Array Slot), fX6_text_c67 (fX6_text_c23 n_23) y1 z0 G J = some (r, G', J') → Hp g A s H locs (wM g ad G J) → lv_has ls 3 [(0, .ref (ad 0)), (1, .int y1)] → W p l e rmX6_text s m args below meth c H locs 0 0 (QI g A below args s r (wM g ad G' J')) (F0 m 67 ls [.int z0]) := by
        intro y1 z0 G J H locs  ls hf hH hl
        rw [fX6_text_c67] at hf
        refine lv_istore_n (lv' := [(2, .int z0), (0, .ref (ad 0)), (1, .int y1)]) hx hb dX6_text_67 rfl hl (by decide) rfl (fun ls hl => ?_)
        refine lv_goto (tgt := 23) hx hb dX6_text_68 (by decide) ?_
        exact ih_23 y1 z0 G J _ _ ls hf hH (lv_sub hl [1, 2, 0] rfl)
      have j_66 : ∀ (y1 : Int32) (G : M2) (J : J2) (H : Heap) (locs : List Loc) (ls : Array Slot), fX6_text_c66 (fX6_text_c23 n_23) y1 G J = some (r, G', J') → Hp g A s H locs (wM g ad G J) → lv_has ls 3 [(0, .ref (ad 0)), (1, .int y1)] → W p l e rmX6_text s m args below meth c H locs 0 0 (QI g A below args s r (wM g ad G' J')) (F0 m 66 ls []) := by
        intro y1 G J H locs  ls hf hH hl
        rw [fX6_text_c66] at hf
        refine lv_iconst (v := 0) hx hb dX6_text_66 (by decide) ?_
        exact j_67 y1 (0 : Int32) G J _ _ ls hf hH (lv_sub hl [0, 1] rfl)
      refine lv_iload_n hx hb dX6_text_23 rfl (lv_at hl 2 rfl) ?_
      refine lv_if_eq (tgt := 71) hx hb dX6_text_24 (by decide) (fun c_30 => ?_) (fun c_30 => ?_)
      · have hf := if_p hf c_30
        exact j_71 y1 G J _ _ ls hf hH (lv_sub hl [0, 1] rfl)
      · have hf := if_n hf c_30
        refine lv_aload_n hx hb dX6_text_27 rfl (lv_at hl 0 rfl) ?_
        obtain ⟨G_31, J_32, hc_33, hf⟩ := bind2_inv hf
        refine aftV (runV C hE hA hH [0, 1, 2, 3, 4, 5, 6, 7, 8, 9, 10, 11] nC_M_M_0_11 (sC_M_M_0_11 g ad G J) (kX6_advance l g ad _ G J G_31 J_32  hc_33) tw_31_14 tw_31_15 tw_31_16 tw_1_5 tw_31_17 hdX6_advance 0 rfl rfl rfl rfl ⟨Nat.le_of_ble_eq_true rfl, Nat.le_of_ble_eq_true rfl⟩ rfl hl.1 (rest := []) rfl (Nat.le_of_ble_eq_true rfl) dX6_text_28 ⟨Nat.zero_le _, Nat.zero_le _⟩) hA hH [0, 1, 2, 3, 4, 5, 6, 7, 8, 9, 10, 11] [] (sC_M_M_0_11 g ad G J) (sR_M_M_0_11 g ad G J) nR_M_M_0_11 dj_M_M_0_11 [0, 1, 2, 3, 4, 5, 6, 7, 8, 9, 10, 11] nP_M_M_0_11 (sP_M_M_0_11 g ad G J G_31 J_32) (fun H locs hH => ?_)
        refine lv_aload_n hx hb dX6_text_31 rfl (lv_at hl 0 rfl) ?_
        obtain ⟨G_34, J_35, hc_36, hf⟩ := bind2_inv hf
        refine aftV (runV C hE hA hH [0, 1, 2, 3, 4, 5, 6, 7, 8, 9, 10, 11] nC_M_M_0_11 (sC_M_M_0_11 g ad G_31 J_32) (kX6_wantItem l g ad _ G_31 J_32 G_34 J_35  hc_36) tw_32_8 tw_32_9 tw_32_10 tw_1_5 tw_32_11 hdX6_wantItem 0 rfl rfl rfl rfl ⟨Nat.le_of_ble_eq_true rfl, Nat.le_of_ble_eq_true rfl⟩ rfl hl.1 (rest := []) rfl (Nat.le_of_ble_eq_true rfl) dX6_text_32 ⟨Nat.zero_le _, Nat.zero_le _⟩) hA hH [0, 1, 2, 3, 4, 5, 6, 7, 8, 9, 10, 11] [] (sC_M_M_0_11 g ad G_31 J_32) (sR_M_M_0_11 g ad G_31 J_32) nR_M_M_0_11 dj_M_M_0_11 [0, 1, 2, 3, 4, 5, 6, 7, 8, 9, 10, 11] nP_M_M_0_11 (sP_M_M_0_11 g ad G_31 J_32 G_34 J_35) (fun H locs hH => ?_)
        obtain ⟨v_37, ev_37⟩ : ∃ z : Int32, z = y1 + (1 : Int32) := ⟨_, rfl⟩
        have hf := letb_at hf v_37 ev_37
        refine lv_iinc (v := v_37) (lv' := [(1, .int v_37), (0, .ref (ad 0)), (2, .int y2)]) hx hb dX6_text_35 hl (k := 1) rfl (by rw [ev_37]; rfl) (by decide) rfl (fun ls hl => ?_)
        refine lv_aload_n hx hb dX6_text_38 rfl (lv_at hl 1 rfl) ?_
        refine gf_RX6_196 C hE hH 0 rfl rfl dX6_text_39 ?_
        refine lv_if_eq (tgt := 66) hx hb dX6_text_42 (by decide) (fun c_38 => ?_) (fun c_38 => ?_)
        · have hf := if_p hf c_38
          exact j_66 v_37 G_34 J_35 _ _ ls hf hH (lv_sub hl [1, 0] rfl)
        · have hf := if_n hf c_38
          refine lv_aload_n hx hb dX6_text_45 rfl (lv_at hl 1 rfl) ?_
          refine gf_RX6_164 C hE hH 0 rfl rfl dX6_text_46 ?_
          refine lv_iconst (v := 3) hx hb dX6_text_49 (by decide) ?_
          refine lv_icmp_ne (tgt := 66) hx hb dX6_text_50 (by decide) (fun c_39 => ?_) (fun c_39 => ?_)
          · have hf := if_n hf c_39
            exact j_66 v_37 G_34 J_35 _ _ ls hf hH (lv_sub hl [1, 0] rfl)
          · have hf := if_p hf c_39
            refine lv_aload_n hx hb dX6_text_53 rfl (lv_at hl 1 rfl) ?_
            refine gf_RX6_171 C hE hH 0 rfl rfl dX6_text_54 ?_
            refine lv_bipush (v := 59) hx hb dX6_text_57 (by decide) ?_
            refine lv_icmp_ne (tgt := 66) hx hb dX6_text_59 (by decide) (fun c_40 => ?_) (fun c_40 => ?_)
            · have hf := if_n hf c_40
              exact j_66 v_37 G_34 J_35 _ _ ls hf hH (lv_sub hl [1, 0] rfl)
            · have hf := if_p hf c_40
              refine lv_iconst (v := 1) hx hb dX6_text_62 (by decide) ?_
              refine lv_goto (tgt := 67) hx hb dX6_text_63 (by decide) ?_
              exact j_67 v_37 (1 : Int32) G_34 J_35 _ _ ls hf hH (lv_sub hl [1, 0] rfl)
  refine lv_aload_n hx hb dX6_text_0 rfl (lv_at hl 0 rfl) ?_
  refine lv_iconst (v := 1) hx hb dX6_text_1 (by decide) ?_
  refine lv_aload_n hx hb dX6_text_2 rfl (lv_at hl 0 rfl) ?_
  refine gf_RX6_41 C hE hH 0 rfl rfl dX6_text_3 ?_
  obtain ⟨G_41, hc_42, hf⟩ := bind_inv hf
  refine aftV (runV C hE hA hH [0, 1, 2, 3, 4, 5, 6, 7, 8, 9, 10, 11] nC_M_M_0_11 (sC_M_M_0_11 g ad G J) (kX6_moveAll_p9 l g ad _ G J (1 : Int32) G_41  hc_42) tw_19_6 tw_19_7 tw_19_8 tw_1_5 tw_19_9 hdX6_moveAll_p9 0 rfl rfl rfl rfl ⟨Nat.le_of_ble_eq_true rfl, Nat.le_of_ble_eq_true rfl⟩ rfl hl.1 (rest := []) rfl (Nat.le_of_ble_eq_true rfl) dX6_text_6 ⟨Nat.zero_le _, Nat.zero_le _⟩) hA hH [0, 1, 2, 3, 4, 5, 6, 7, 8, 9, 10, 11] [] (sC_M_M_0_11 g ad G J) (sR_M_M_0_11 g ad G J) nR_M_M_0_11 dj_M_M_0_11 [0, 1, 2, 3, 4, 5, 6, 7, 8, 9, 10, 11] nP_M_M_0_11 (sP_M_M_0_11 g ad G J G_41 J) (fun H locs hH => ?_)
  refine lv_aload_n hx hb dX6_text_9 rfl (lv_at hl 0 rfl) ?_
  refine lv_iconst (v := 0) hx hb dX6_text_10 (by decide) ?_
  refine pf_RX6_149 C hE hH 0 rfl rfl rfl (Nat.le_of_ble_eq_true rfl) (fun q : M2 => wM g ad q J) (st2 G_41 0 (upd (G_41 0) 5 (0 : Int32))) rfl dX6_text_11 (fun G_43 eG_43 H locs hH => ?_)
  have hf := letb_at hf G_43 eG_43
  refine lv_aload_n hx hb dX6_text_14 rfl (lv_at hl 0 rfl) ?_
  refine lv_iconst (v := 1) hx hb dX6_text_15 (by decide) ?_
  refine pf_RX6_196 C hE hH 0 rfl (by decide) (by decide) (Nat.le_of_ble_eq_true rfl) (fun q : M2 => wM g ad q J) (st2 G_43 0 (upd (G_43 0) 7 (1 : Int32))) rfl dX6_text_16 (fun G_44 eG_44 H locs hH => ?_)
  have hf := letb_at hf G_44 eG_44
  refine lv_iconst (v := 0) hx hb dX6_text_19 (by decide) ?_
  refine lv_istore_n (lv' := [(1, .int (0 : Int32)), (0, .ref (ad 0))]) hx hb dX6_text_20 rfl hl (by decide) rfl (fun ls hl => ?_)
  refine lv_iconst (v := 1) hx hb dX6_text_21 (by decide) ?_
  refine lv_istore_n (lv' := [(2, .int (1 : Int32)), (1, .int (0 : Int32)), (0, .ref (ad 0))]) hx hb dX6_text_22 rfl hl (by decide) rfl (fun ls hl => ?_)
  exact lp_23 _ (0 : Int32) (1 : Int32) G_44 J _ _ ls hf hH (lv_sub hl [2, 1, 0] rfl)
