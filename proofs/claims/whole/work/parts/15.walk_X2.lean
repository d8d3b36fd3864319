def fJ7_fill_d0a16_c22  (B : J1) : Option (J1) := some B
def fJ7_fill_d0a16_c6  : Nat → Int64 → Int32 → Int32 → J1 → Option (J1)
  | 0, _, _, _, _ => none
  | n + 1, y1, y3, y4, B => (if y4 ≤ y3 then fJ7_fill_d0a16_c22  B else grd (inb y3 40) (letb (vp_updL B y3.toNatClampNeg y1) (fun B_7 : J1 => letb (y3 + (1 : Int32)) (fun v_8 : Int32 => fJ7_fill_d0a16_c6 n y1 v_8 y4 B_7))))
def fJ7_fill_d0a16 (x2 : Int64) (B : J1) : Option (J1) := fJ7_fill_d0a16_c6  FU x2 (0 : Int32) (40 : Int32) B
def rmJ7_fill_d0a16 : Room := { frames := 0, cells := 0, slots := 0, locals := 0 }
theorem hdJ7_fill_d0a16 : yJ7_fill_d0a16.cls = yJ7_fill_d0a16.cls ∧ yJ7_fill_d0a16.cls ≠ "java/lang/invoke/MethodHandle" ∧ yJ7_fill_d0a16.cls ≠ "java/lang/invoke/VarHandle" ∧ (parseMethodDescriptor yJ7_fill_d0a16.desc).map (fun d => d.parameters.length) = some 2 := by decide +kernel
set_option maxHeartbeats 4000000 in
set_option maxRecDepth 100000 in
theorem kJ7_fill_d0a16 (l : Launch) (g : Gl) (ad : Nat → Nat) (sz : Nat) (B : J1) (x2 : Int64) (B' : J1)  (hf : fJ7_fill_d0a16 x2 B = some B') : MetV l yJ7_fill_d0a16 (Cond.code yJ7_fill_d0a16 cJ7_fill_d0a16 5 none :: wsL_law) rmJ7_fill_d0a16 [.ref (ad 0), .long x2] g (wA g ad B) sz (wA g ad B') := by
  refine openV (by decide +kernel) (Nat.le_of_ble_eq_true rfl) ?_
  intro p e s m args below meth c A C hE hA hH ls hl
  have hl : lv_has ls 5 [(0, .ref (ad 0)), (1, .long x2)] := hl
  have C : Cx p s m args meth c cJ7_fill_d0a16 5 none RJ7 := C
  obtain ⟨hx, hb, hml, hown, hT, hr, hlk⟩ := id C
  rw [fJ7_fill_d0a16] at hf
  have lp_6 : ∀ (n_6 : Nat) (y1 : Int64) (y3 : Int32) (y4 : Int32) (B : J1) (H : Heap) (locs : List Loc) (ls : Array Slot), fJ7_fill_d0a16_c6  n_6 y1 y3 y4 B = some B' → Hp g A s H locs (wA g ad B) → lv_has ls 5 [(0, .ref (ad 0)), (1, .long y1), (3, .int y3), (4, .int y4)] → W p l e rmJ7_fill_d0a16 s m args below meth c H locs 0 0 (QV g A below args s (wA g ad B')) (F0 m 6 ls []) := by
    intro n_6
    induction n_6 with
    | zero =>
      intro y1 y3 y4 B H locs  ls hf hH hl
      rw [fJ7_fill_d0a16_c6] at hf
      cases hf
    | succ n_6 ih_6 =>
      intro y1 y3 y4 B H locs  ls hf hH hl
      rw [fJ7_fill_d0a16_c6] at hf
      have j_22 : ∀ (B : J1) (H : Heap) (locs : List Loc) (ls : Array Slot), fJ7_fill_d0a16_c22  B = some B' → Hp g A s H locs (wA g ad B) → lv_has ls 5 [] → W p l e rmJ7_fill_d0a16 s m args below meth c H locs 0 0 (QV g A below args s (wA g ad B')) (F0 m 22 ls []) := by
        intro B H locs  ls hf hH hl
        rw [fJ7_fill_d0a16_c22] at hf
        have h1 := Option.some.inj hf
        subst h1
        exact retV C hH dJ7_fill_d0a16_22
      refine lv_iload_n hx hb dJ7_fill_d0a16_6 rfl (lv_at hl 2 rfl) ?_
      refine lv_iload hx hb dJ7_fill_d0a16_7 (lv_at hl 3 rfl) ?_
      refine lv_icmp_ge (tgt := 22) hx hb dJ7_fill_d0a16_9 (by decide) (fun c_5 => ?_) (fun c_5 => ?_)
      · have hf := if_p hf c_5
        exact j_22 B _ _ ls hf hH (lv_sub hl [] rfl)
      · have hf := if_n hf c_5
        refine lv_aload_n hx hb dJ7_fill_d0a16_12 rfl (lv_at hl 0 rfl) ?_
        refine lv_iload_n hx hb dJ7_fill_d0a16_13 rfl (lv_at hl 2 rfl) ?_
        refine lv_lload_n hx hb dJ7_fill_d0a16_14 rfl (lv_at hl 1 rfl) ?_
        obtain ⟨hi_6, hf⟩ := grd_inv hf
        refine xlast C hE hH 0 rfl hi_6 (fun q : J1 => wA g ad q) (vp_updL B y3.toNatClampNeg y1) rfl dJ7_fill_d0a16_15 (fun B_7 eB_7 H locs hH => ?_)
        have hf := letb_at hf B_7 eB_7
        obtain ⟨v_8, ev_8⟩ : ∃ z : Int32, z = y3 + (1 : Int32) := ⟨_, rfl⟩
        have hf := letb_at hf v_8 ev_8
        refine lv_iinc (v := v_8) (lv' := [(3, .int v_8), (0, .ref (ad 0)), (1, .long y1), (4, .int y4)]) hx hb dJ7_fill_d0a16_16 hl (k := 2) rfl (by rw [ev_8]; rfl) (by decide) rfl (fun ls hl => ?_)
        refine lv_goto (tgt := 6) hx hb dJ7_fill_d0a16_19 (by decide) ?_
        exact ih_6 y1 v_8 y4 B_7 _ _ ls hf hH (lv_sub hl [1, 2, 0, 3] rfl)
  refine lv_iconst (v := 0) hx hb dJ7_fill_d0a16_0 (by decide) ?_
  refine lv_istore_n (lv' := [(3, .int (0 : Int32)), (0, .ref (ad 0)), (1, .long x2)]) hx hb dJ7_fill_d0a16_1 rfl hl (by decide) rfl (fun ls hl => ?_)
  refine lv_aload_n hx hb dJ7_fill_d0a16_2 rfl (lv_at hl 1 rfl) ?_
  refine xalen C hE hH 0 1 rfl rfl (v := 40) rfl dJ7_fill_d0a16_3 ?_
  refine lv_istore (lv' := [(4, .int (40 : Int32)), (3, .int (0 : Int32)), (0, .ref (ad 0)), (1, .long x2)]) hx hb dJ7_fill_d0a16_4 hl (by decide) rfl (fun ls hl => ?_)
  exact lp_6 _ x2 (0 : Int32) (40 : Int32) B _ _ ls hf hH (lv_sub hl [2, 3, 1, 0] rfl)
def fX2_layOut_c23  (z0 : Int32) (B : J1) (Z : M1) : Option (J1 × M1) := letb (upd Z 1 z0) (fun Z_6 : M1 => some (B, Z_6))
def fX2_layOut (x1 : Int32) (x2 : Int32) (B : J1) (Z : M1) : Option (J1 × M1) := (fJ7_fill_d0a16 (0 : Int64) B).bind (fun (B_7 : J1) => letb (upd Z 0 x1) (fun Z_9 : M1 => (if x1 = 0 then fX2_layOut_c23  (0 : Int32) B_7 Z_9 else fX2_layOut_c23  x2 B_7 Z_9)))
def rmX2_layOut : Room := { frames := 1, cells := 0, slots := 0, locals := 24 }
theorem hdX2_layOut : yX2_layOut.cls = yX2_layOut.cls ∧ yX2_layOut.cls ≠ "java/lang/invoke/MethodHandle" ∧ yX2_layOut.cls ≠ "java/lang/invoke/VarHandle" ∧ (parseMethodDescriptor yX2_layOut.desc).map (fun d => d.parameters.length) = some 2 := by decide +kernel
set_option maxHeartbeats 4000000 in
set_option maxRecDepth 100000 in
theorem kX2_layOut (l : Launch) (g : Gl) (ad : Nat → Nat) (sz : Nat) (B : J1) (Z : M1) (x1 : Int32) (x2 : Int32) (B' : J1) (Z' : M1)  (hf : fX2_layOut x1 x2 B Z = some (B', Z')) : MetV l yX2_layOut (Cond.code yX2_layOut cX2_layOut 3 none :: wsL_law) rmX2_layOut [.ref (ad 0), .int x1, .int x2] g (wS g ad B Z) sz (wS g ad B' Z') := by
  refine openV (by decide +kernel) (Nat.le_of_ble_eq_true rfl) ?_
  intro p e s m args below meth c A C hE hA hH ls hl
  have hl : lv_has ls 3 [(0, .ref (ad 0)), (1, .int x1), (2, .int x2)] := hl
  have C : Cx p s m args meth c cX2_layOut 3 none RX2 := C
  obtain ⟨hx, hb, hml, hown, hT, hr, hlk⟩ := id C
  rw [fX2_layOut] at hf
  have j_23 : ∀ (z0 : Int32) (B : J1) (Z : M1) (H : Heap) (locs : List Loc) (ls : Array Slot), fX2_layOut_c23  z0 B Z = some (B', Z') → Hp g A s H locs (wS g ad B Z) → lv_has ls 3 [] → W p l e rmX2_layOut s m args below meth c H locs 0 0 (QV g A below args s (wS g ad B' Z')) (F0 m 23 ls [.int z0, .ref (ad 0)]) := by
    intro z0 B Z H locs  ls hf hH hl
    rw [fX2_layOut_c23] at hf
    refine pf_RX2_19 C hE hH 0 rfl rfl rfl (Nat.le_of_ble_eq_true rfl) (fun q : M1 => wS g ad B q) (upd Z 1 z0) rfl dX2_layOut_23 (fun Z_6 eZ_6 H locs hH => ?_)
    have hf := letb_at hf Z_6 eZ_6
    have hf := Option.some.inj hf
    obtain ⟨h1, h2⟩ := Prod.mk.inj hf
    subst h1
    subst h2
    exact retV C hH dX2_layOut_26
  refine lv_aload_n hx hb dX2_layOut_0 rfl (lv_at hl 0 rfl) ?_
  refine gf_RX2_9 C hE hH 0 rfl rfl dX2_layOut_1 ?_
  refine lv_lconst (v := 0) hx hb dX2_layOut_4 (by decide) ?_
  obtain ⟨B_7, hc_8, hf⟩ := bind_inv hf
  refine aftV (runS C hE hA hH [1] nC_S_A_1_1 (sC_S_A_1_1 g ad B Z) (kJ7_fill_d0a16 l g (fun k => ad (1 + k)) _ B (0 : Int64) B_7  hc_8) tw_34_17 tw_34_18 tw_34_19 tw_34_20 hdJ7_fill_d0a16 rfl rfl ⟨Nat.le_of_ble_eq_true rfl, Nat.le_of_ble_eq_true rfl⟩ rfl hl.1 (rest := []) rfl (Nat.le_of_ble_eq_true rfl) dX2_layOut_5 ⟨Nat.zero_le _, Nat.zero_le _⟩) hA hH [1] [0] (sC_S_A_1_1 g ad B Z) (sR_S_A_1_1 g ad B Z) nR_S_A_1_1 dj_S_A_1_1 [0, 1] nP_S_A_1_1 (sP_S_A_1_1 g ad B Z B_7) (fun H locs hH => ?_)
  refine lv_aload_n hx hb dX2_layOut_8 rfl (lv_at hl 0 rfl) ?_
  refine lv_iload_n hx hb dX2_layOut_9 rfl (lv_at hl 1 rfl) ?_
  refine pf_RX2_15 C hE hH 0 rfl rfl rfl (Nat.le_of_ble_eq_true rfl) (fun q : M1 => wS g ad B_7 q) (upd Z 0 x1) rfl dX2_layOut_10 (fun Z_9 eZ_9 H locs hH => ?_)
  have hf := letb_at hf Z_9 eZ_9
  refine lv_aload_n hx hb dX2_layOut_13 rfl (lv_at hl 0 rfl) ?_
  refine lv_iload_n hx hb dX2_layOut_14 rfl (lv_at hl 1 rfl) ?_
  refine lv_if_ne (tgt := 22) hx hb dX2_layOut_15 (by decide) (fun c_10 => ?_) (fun c_10 => ?_)
  · have hf := if_n hf c_10
    refine lv_iload_n hx hb dX2_layOut_22 rfl (lv_at hl 2 rfl) ?_
    exact j_23 x2 B_7 Z_9 _ _ ls hf hH (lv_sub hl [] rfl)
  · have hf := if_p hf c_10
    refine lv_iconst (v := 0) hx hb dX2_layOut_18 (by decide) ?_
    refine lv_goto (tgt := 23) hx hb dX2_layOut_19 (by decide) ?_
    exact j_23 (0 : Int32) B_7 Z_9 _ _ ls hf hH (lv_sub hl [] rfl)
def fX2_isWidth_c27  (z0 : Int32) : Option (Int32) := grd (isB z0) (some z0)
def fX2_isWidth_c22   : Option (Int32) := fX2_isWidth_c27  (1 : Int32)
def fX2_isWidth (x1 : Int32) : Option (Int32) := (if x1 = 0 then fX2_isWidth_c22   else (if x1 = (8 : Int32) then fX2_isWidth_c22   else (if x1 = (16 : Int32) then fX2_isWidth_c22   else (if x1 = (64 : Int32) then fX2_isWidth_c22   else fX2_isWidth_c27  (0 : Int32)))))
def rmX2_isWidth : Room := { frames := 0, cells := 0, slots := 0, locals := 0 }
theorem hdX2_isWidth : yX2_isWidth.cls = yX2_isWidth.cls ∧ yX2_isWidth.cls ≠ "java/lang/invoke/MethodHandle" ∧ yX2_isWidth.cls ≠ "java/lang/invoke/VarHandle" ∧ (parseMethodDescriptor yX2_isWidth.desc).map (fun d => d.parameters.length) = some 1 := by decide +kernel
set_option maxHeartbeats 4000000 in
set_option maxRecDepth 100000 in
theorem kX2_isWidth (l : Launch) (g : Gl) (ad : Nat → Nat) (sz : Nat)  (x1 : Int32) (r : Int32)  (hf : fX2_isWidth x1 = some r) : MetPI l yX2_isWidth (Cond.code yX2_isWidth cX2_isWidth 1 (some .boolean) :: wsL_law) rmX2_isWidth [.int x1] g ([]) sz r := by
  refine openPI (by decide +kernel) (Nat.le_of_ble_eq_true rfl) ?_
  intro p e s m args below meth c A C hE hA hH ls hl
  have hl : lv_has ls 1 [(0, .int x1)] := hl
  have C : Cx p s m args meth c cX2_isWidth 1 (some .boolean) RX2 := C
  obtain ⟨hx, hb, hml, hown, hT, hr, hlk⟩ := id C
  rw [fX2_isWidth] at hf
  have j_27 : ∀ (z0 : Int32) (ls : Array Slot), fX2_isWidth_c27  z0 = some r → lv_has ls 1 [] → W p l e rmX2_isWidth s m args below meth c s.heap [] 0 0 (QPI below args s r) (F0 m 27 ls [.int z0]) := by
    intro z0  ls hf hl
    rw [fX2_isWidth_c27] at hf
    obtain ⟨hz, hf⟩ := grd_inv hf
    have h1 := Option.some.inj hf
    subst h1
    exact retPI C (isB_nar hz) dX2_isWidth_27
  have j_22 : ∀  (ls : Array Slot), fX2_isWidth_c22   = some r → lv_has ls 1 [] → W p l e rmX2_isWidth s m args below meth c s.heap [] 0 0 (QPI below args s r) (F0 m 22 ls []) := by
    intro  ls hf hl
    rw [fX2_isWidth_c22] at hf
    refine lv_iconst (v := 1) hx hb dX2_isWidth_22 (by decide) ?_
    refine lv_goto (tgt := 27) hx hb dX2_isWidth_23 (by decide) ?_
    exact j_27 (1 : Int32) ls hf (lv_sub hl [] rfl)
  refine lv_iload_n hx hb dX2_isWidth_0 rfl (lv_at hl 0 rfl) ?_
  refine lv_if_eq (tgt := 22) hx hb dX2_isWidth_1 (by decide) (fun c_5 => ?_) (fun c_5 => ?_)
  · have hf := if_p hf c_5
    exact j_22  ls hf (lv_sub hl [] rfl)
  · have hf := if_n hf c_5
    refine lv_iload_n hx hb dX2_isWidth_4 rfl (lv_at hl 0 rfl) ?_
    refine lv_bipush (v := 8) hx hb dX2_isWidth_5 (by decide) ?_
    refine lv_icmp_eq (tgt := 22) hx hb dX2_isWidth_7 (by decide) (fun c_6 => ?_) (fun c_6 => ?_)
    · have hf := if_p hf c_6
      exact j_22  ls hf (lv_sub hl [] rfl)
    · have hf := if_n hf c_6
      refine lv_iload_n hx hb dX2_isWidth_10 rfl (lv_at hl 0 rfl) ?_
      refine lv_bipush (v := 16) hx hb dX2_isWidth_11 (by decide) ?_
      refine lv_icmp_eq (tgt := 22) hx hb dX2_isWidth_13 (by decide) (fun c_7 => ?_) (fun c_7 => ?_)
      · have hf := if_p hf c_7
        exact j_22  ls hf (lv_sub hl [] rfl)
      · have hf := if_n hf c_7
        refine lv_iload_n hx hb dX2_isWidth_16 rfl (lv_at hl 0 rfl) ?_
        refine lv_bipush (v := 64) hx hb dX2_isWidth_17 (by decide) ?_
        refine lv_icmp_ne (tgt := 26) hx hb dX2_isWidth_19 (by decide) (fun c_8 => ?_) (fun c_8 => ?_)
        · have hf := if_n hf c_8
          refine lv_iconst (v := 0) hx hb dX2_isWidth_26 (by decide) ?_
          exact j_27 (0 : Int32) ls hf (lv_sub hl [] rfl)
        · have hf := if_p hf c_8
          exact j_22  ls hf (lv_sub hl [] rfl)
def fX2_isMissing_c12  (z0 : Int32) (B : J1) (Z : M1) : Option (Int32) := grd (isB z0) (some z0)
def fX2_isMissing (B : J1) (Z : M1) : Option (Int32) := (if (Z 0) = 0 then fX2_isMissing_c12  (1 : Int32) B Z else fX2_isMissing_c12  (0 : Int32) B Z)
def rmX2_isMissing : Room := { frames := 0, cells := 0, slots := 0, locals := 0 }
theorem hdX2_isMissing : yX2_isMissing.cls = yX2_isMissing.cls ∧ yX2_isMissing.cls ≠ "java/lang/invoke/MethodHandle" ∧ yX2_isMissing.cls ≠ "java/lang/invoke/VarHandle" ∧ (parseMethodDescriptor yX2_isMissing.desc).map (fun d => d.parameters.length) = some 0 := by decide +kernel
set_option maxHeartbeats 4000000 in
set_option maxRecDepth 100000 in
theorem kX2_isMissing (l : Launch) (g : Gl) (ad : Nat → Nat) (sz : Nat) (B : J1) (Z : M1)  (r : Int32)  (hf : fX2_isMissing B Z = some r) : MetPI l yX2_isMissing (Cond.code yX2_isMissing cX2_isMissing 1 (some .boolean) :: wsL_law) rmX2_isMissing [.ref (ad 0)] g (wS g ad B Z) sz r := by
  refine openPI (by decide +kernel) (Nat.le_of_ble_eq_true rfl) ?_
  intro p e s m args below meth c A C hE hA hH ls hl
  have hl : lv_has ls 1 [(0, .ref (ad 0))] := hl
  have C : Cx p s m args meth c cX2_isMissing 1 (some .boolean) RX2 := C
  obtain ⟨hx, hb, hml, hown, hT, hr, hlk⟩ := id C
  rw [fX2_isMissing] at hf
  have j_12 : ∀ (z0 : Int32) (ls : Array Slot), fX2_isMissing_c12  z0 B Z = some r → lv_has ls 1 [] → W p l e rmX2_isMissing s m args below meth c s.heap [] 0 0 (QPI below args s r) (F0 m 12 ls [.int z0]) := by
    intro z0  ls hf hl
    rw [fX2_isMissing_c12] at hf
    obtain ⟨hz, hf⟩ := grd_inv hf
    have h1 := Option.some.inj hf
    subst h1
    exact retPI C (isB_nar hz) dX2_isMissing_12
  refine lv_aload_n hx hb dX2_isMissing_0 rfl (lv_at hl 0 rfl) ?_
  refine gf_RX2_15 C hE hH 0 rfl rfl dX2_isMissing_1 ?_
  refine lv_if_ne (tgt := 11) hx hb dX2_isMissing_4 (by decide) (fun c_2 => ?_) (fun c_2 => ?_)
  · have hf := if_n hf c_2
    refine lv_iconst (v := 0) hx hb dX2_isMissing_11 (by decide) ?_
    exact j_12 (0 : Int32) ls hf (lv_sub hl [] rfl)
  · have hf := if_p hf c_2
    refine lv_iconst (v := 1) hx hb dX2_isMissing_7 (by decide) ?_
    refine lv_goto (tgt := 12) hx hb dX2_isMissing_8 (by decide) ?_
    exact j_12 (1 : Int32) ls hf (lv_sub hl [] rfl)
def fX2_put_c77  (B : J1) (Z : M1) : Option (J1) := some B
def fX2_put (x1 : Int32) (x2 : Int64) (B : J1) (Z : M1) : Option (J1) := (fX5_within x1 (0 : Int32) ((Z 1) - (1 : Int32))).bind (fun (r_13 : Int32) => (if r_13 = 0 then some B else letb (Z 0) (fun v_16 : Int32 => (if v_16 = 8 then grd (inb x1 40) (letb (vp_updL B x1.toNatClampNeg (((x2.toInt32).toInt8.toInt32).toInt64)) (fun B_19 : J1 => fX2_put_c77  B_19 Z)) else (if v_16 = 16 then grd (inb x1 40) (letb (vp_updL B x1.toNatClampNeg (((x2.toInt32).toInt16.toInt32).toInt64)) (fun B_22 : J1 => fX2_put_c77  B_22 Z)) else grd (inb x1 40) (letb (vp_updL B x1.toNatClampNeg x2) (fun B_24 : J1 => fX2_put_c77  B_24 Z)))))))
def rmX2_put : Room := { frames := 1, cells := 0, slots := 0, locals := 22 }
theorem hdX2_put : yX2_put.cls = yX2_put.cls ∧ yX2_put.cls ≠ "java/lang/invoke/MethodHandle" ∧ yX2_put.cls ≠ "java/lang/invoke/VarHandle" ∧ (parseMethodDescriptor yX2_put.desc).map (fun d => d.parameters.length) = some 2 := by decide +kernel
set_option maxHeartbeats 4000000 in
set_option maxRecDepth 100000 in
theorem kX2_put (l : Launch) (g : Gl) (ad : Nat → Nat) (sz : Nat) (B : J1) (Z : M1) (x1 : Int32) (x2 : Int64) (B' : J1)  (hf : fX2_put x1 x2 B Z = some B') : MetV l yX2_put (Cond.code yX2_put cX2_put 4 none :: wsL_law) rmX2_put [.ref (ad 0), .int x1, .long x2] g (wS g ad B Z) sz (wS g ad B' Z) := by
  refine openV (by decide +kernel) (Nat.le_of_ble_eq_true rfl) ?_
  intro p e s m args below meth c A C hE hA hH ls hl
  have hl : lv_has ls 4 [(0, .ref (ad 0)), (1, .int x1), (2, .long x2)] := hl
  have C : Cx p s m args meth c cX2_put 4 none RX2 := C
  obtain ⟨hx, hb, hml, hown, hT, hr, hlk⟩ := id C
  rw [fX2_put] at hf
  have j_77 : ∀ (B : J1) (H : Heap) (locs : List Loc) (ls : Array Slot), fX2_put_c77  B Z = some B' → Hp g A s H locs (wS g ad B Z) → lv_has ls 4 [] → W p l e rmX2_put s m args below meth c H locs 0 0 (QV g A below args s (wS g ad B' Z)) (F0 m 77 ls []) := by
    intro B H locs  ls hf hH hl
    rw [fX2_put_c77] at hf
    have h1 := Option.some.inj hf
    subst h1
    exact retV C hH dX2_put_77
  refine lv_iload_n hx hb dX2_put_0 rfl (lv_at hl 1 rfl) ?_
  refine lv_iconst (v := 0) hx hb dX2_put_1 (by decide) ?_
  refine lv_aload_n hx hb dX2_put_2 rfl (lv_at hl 0 rfl) ?_
  refine gf_RX2_19 C hE hH 0 rfl rfl dX2_put_3 ?_
  refine lv_iconst (v := 1) hx hb dX2_put_6 (by decide) ?_
  refine lv_isub hx hb dX2_put_7 ?_
  obtain ⟨r_13, hc_14, hf⟩ := bind_inv hf
  refine aftPI (runSN (host := RX5) C hE hA hH [] rfl rfl (kX5_within l g ad _ x1 (0 : Int32) ((Z 1) - (1 : Int32)) r_13  hc_14) (hE.2.2.2.2.2.1) tw_4_15 tw_1_2 tw_4_16 hdX5_within rfl rfl ⟨Nat.le_of_ble_eq_true rfl, Nat.le_of_ble_eq_true rfl⟩ rfl hl.1 (rest := []) rfl (Nat.le_of_ble_eq_true rfl) dX2_put_8 ⟨Nat.zero_le _, Nat.zero_le _⟩) ?_
  refine lv_if_ne (tgt := 15) hx hb dX2_put_11 (by decide) (fun c_15 => ?_) (fun c_15 => ?_)
  · have hf := if_n hf c_15
    refine lv_aload_n hx hb dX2_put_15 rfl (lv_at hl 0 rfl) ?_
    refine gf_RX2_15 C hE hH 0 rfl rfl dX2_put_16 ?_
    refine lv_topi (fun v_16 ev_16 => ?_)
    have hf := letb_at hf v_16 ev_16
    by_cases c_17 : v_16 = 8
    · have hf := if_p hf c_17
      refine lv_lookup (tgt := 44) (off := 25) hx hb dX2_put_19 (by decide) (by rw [c_17]; try rfl) (by decide) ?_
      refine lv_aload_n hx hb dX2_put_44 rfl (lv_at hl 0 rfl) ?_
      refine gf_RX2_9 C hE hH 0 rfl rfl dX2_put_45 ?_
      refine lv_iload_n hx hb dX2_put_48 rfl (lv_at hl 1 rfl) ?_
      refine lv_lload_n hx hb dX2_put_49 rfl (lv_at hl 2 rfl) ?_
      refine lv_l2i hx hb dX2_put_50 rfl ?_
      refine lv_i2b hx hb dX2_put_51 rfl ?_
      refine lv_i2l hx hb dX2_put_52 rfl ?_
      obtain ⟨hi_18, hf⟩ := grd_inv hf
      refine xlast C hE hH 1 rfl hi_18 (fun q : J1 => wS g ad q Z) (vp_updL B x1.toNatClampNeg (((x2.toInt32).toInt8.toInt32).toInt64)) rfl dX2_put_53 (fun B_19 eB_19 H locs hH => ?_)
      have hf := letb_at hf B_19 eB_19
      refine lv_goto (tgt := 77) hx hb dX2_put_54 (by decide) ?_
      exact j_77 B_19 _ _ ls hf hH (lv_sub hl [] rfl)
    have hf := if_n hf c_17
    by_cases c_20 : v_16 = 16
    · have hf := if_p hf c_20
      refine lv_lookup (tgt := 57) (off := 38) hx hb dX2_put_19 (by decide) (by rw [c_20]; try rfl) (by decide) ?_
      refine lv_aload_n hx hb dX2_put_57 rfl (lv_at hl 0 rfl) ?_
      refine gf_RX2_9 C hE hH 0 rfl rfl dX2_put_58 ?_
      refine lv_iload_n hx hb dX2_put_61 rfl (lv_at hl 1 rfl) ?_
      refine lv_lload_n hx hb dX2_put_62 rfl (lv_at hl 2 rfl) ?_
      refine lv_l2i hx hb dX2_put_63 rfl ?_
      refine lv_i2s hx hb dX2_put_64 rfl ?_
      refine lv_i2l hx hb dX2_put_65 rfl ?_
      obtain ⟨hi_21, hf⟩ := grd_inv hf
      refine xlast C hE hH 1 rfl hi_21 (fun q : J1 => wS g ad q Z) (vp_updL B x1.toNatClampNeg (((x2.toInt32).toInt16.toInt32).toInt64)) rfl dX2_put_66 (fun B_22 eB_22 H locs hH => ?_)
      have hf := letb_at hf B_22 eB_22
      refine lv_goto (tgt := 77) hx hb dX2_put_67 (by decide) ?_
      exact j_77 B_22 _ _ ls hf hH (lv_sub hl [] rfl)
    have hf := if_n hf c_20
    refine lv_lookup (tgt := 70) (off := 51) hx hb dX2_put_19 (by decide) (by rw [lv_osw c_17 (by decide), lv_osw c_20 (by decide)]; try rfl) (by decide) ?_
    refine lv_aload_n hx hb dX2_put_70 rfl (lv_at hl 0 rfl) ?_
    refine gf_RX2_9 C hE hH 0 rfl rfl dX2_put_71 ?_
    refine lv_iload_n hx hb dX2_put_74 rfl (lv_at hl 1 rfl) ?_
    refine lv_lload_n hx hb dX2_put_75 rfl (lv_at hl 2 rfl) ?_
    obtain ⟨hi_23, hf⟩ := grd_inv hf
    refine xlast C hE hH 1 rfl hi_23 (fun q : J1 => wS g ad q Z) (vp_updL B x1.toNatClampNeg x2) rfl dX2_put_76 (fun B_24 eB_24 H locs hH => ?_)
    have hf := letb_at hf B_24 eB_24
    exact j_77 B_24 _ _ ls hf hH (lv_sub hl [] rfl)
  · have hf := if_p hf c_15
    have h1 := Option.some.inj hf
    subst h1
    exact retV C hH dX2_put_14
def fX2_hasRange_c23  (z0 : Int32) (B : J1) (Z : M1) : Option (Int32) := grd (isB z0) (some z0)
def fX2_hasRange_c22  (B : J1) (Z : M1) : Option (Int32) := fX2_hasRange_c23  (0 : Int32) B Z
def fX2_hasRange (x1 : Int32) (x2 : Int32) (B : J1) (Z : M1) : Option (Int32) := (if x1 < 0 then fX2_hasRange_c22  B Z else (if x2 < 0 then fX2_hasRange_c22  B Z else (if ((Z 1) - x1) < x2 then fX2_hasRange_c22  B Z else fX2_hasRange_c23  (1 : Int32) B Z)))
def rmX2_hasRange : Room := { frames := 0, cells := 0, slots := 0, locals := 0 }
theorem hdX2_hasRange : yX2_hasRange.cls = yX2_hasRange.cls ∧ yX2_hasRange.cls ≠ "java/lang/invoke/MethodHandle" ∧ yX2_hasRange.cls ≠ "java/lang/invoke/VarHandle" ∧ (parseMethodDescriptor yX2_hasRange.desc).map (fun d => d.parameters.length) = some 2 := by decide +kernel
set_option maxHeartbeats 4000000 in
set_option maxRecDepth 100000 in
theorem kX2_hasRange (l : Launch) (g : Gl) (ad : Nat → Nat) (sz : Nat) (B : J1) (Z : M1) (x1 : Int32) (x2 : Int32) (r : Int32)  (hf : fX2_hasRange x1 x2 B Z = some r) : MetPI l yX2_hasRange (Cond.code yX2_hasRange cX2_hasRange 3 (some .boolean) :: wsL_law) rmX2_hasRange [.ref (ad 0), .int x1, .int x2] g (wS g ad B Z) sz r := by
  refine openPI (by decide +kernel) (Nat.le_of_ble_eq_true rfl) ?_
  intro p e s m args below meth c A C hE hA hH ls hl
  have hl : lv_has ls 3 [(0, .ref (ad 0)), (1, .int x1), (2, .int x2)] := hl
  have C : Cx p s m args meth c cX2_hasRange 3 (some .boolean) RX2 := C
  obtain ⟨hx, hb, hml, hown, hT, hr, hlk⟩ := id C
  rw [fX2_hasRange] at hf
  have j_23 : ∀ (z0 : Int32) (ls : Array Slot), fX2_hasRange_c23  z0 B Z = some r → lv_has ls 3 [] → W p l e rmX2_hasRange s m args below meth c s.heap [] 0 0 (QPI below args s r) (F0 m 23 ls [.int z0]) := by
    intro z0  ls hf hl
    rw [fX2_hasRange_c23] at hf
    obtain ⟨hz, hf⟩ := grd_inv hf
    have h1 := Option.some.inj hf
    subst h1
    exact retPI C (isB_nar hz) dX2_hasRange_23
  have j_22 : ∀  (ls : Array Slot), fX2_hasRange_c22  B Z = some r → lv_has ls 3 [] → W p l e rmX2_hasRange s m args below meth c s.heap [] 0 0 (QPI below args s r) (F0 m 22 ls []) := by
    intro  ls hf hl
    rw [fX2_hasRange_c22] at hf
    refine lv_iconst (v := 0) hx hb dX2_hasRange_22 (by decide) ?_
    exact j_23 (0 : Int32) ls hf (lv_sub hl [] rfl)
  refine lv_iload_n hx hb dX2_hasRange_0 rfl (lv_at hl 1 rfl) ?_
  refine lv_if_lt (tgt := 22) hx hb dX2_hasRange_1 (by decide) (fun c_4 => ?_) (fun c_4 => ?_)
  · have hf := if_p hf c_4
    exact j_22  ls hf (lv_sub hl [] rfl)
  · have hf := if_n hf c_4
    refine lv_iload_n hx hb dX2_hasRange_4 rfl (lv_at hl 2 rfl) ?_
    refine lv_if_lt (tgt := 22) hx hb dX2_hasRange_5 (by decide) (fun c_5 => ?_) (fun c_5 => ?_)
    · have hf := if_p hf c_5
      exact j_22  ls hf (lv_sub hl [] rfl)
    · have hf := if_n hf c_5
      refine lv_iload_n hx hb dX2_hasRange_8 rfl (lv_at hl 2 rfl) ?_
      refine lv_aload_n hx hb dX2_hasRange_9 rfl (lv_at hl 0 rfl) ?_
      refine gf_RX2_19 C hE hH 0 rfl rfl dX2_hasRange_10 ?_
      refine lv_iload_n hx hb dX2_hasRange_13 rfl (lv_at hl 1 rfl) ?_
      refine lv_isub hx hb dX2_hasRange_14 ?_
      refine lv_icmp_gt (tgt := 22) hx hb dX2_hasRange_15 (by decide) (fun c_6 => ?_) (fun c_6 => ?_)
      · have hf := if_p hf c_6
        exact j_22  ls hf (lv_sub hl [] rfl)
      · have hf := if_n hf c_6
        refine lv_iconst (v := 1) hx hb dX2_hasRange_18 (by decide) ?_
        refine lv_goto (tgt := 23) hx hb dX2_hasRange_19 (by decide) ?_
        exact j_23 (1 : Int32) ls hf (lv_sub hl [] rfl)
