def fX1_isBesideBrother_c46  (L : M2) : Option (Int32) := some (0 : Int32)
def fX1_isBesideBrother_c40 (k_2 : Int32 → Int32 → M2 → Option (Int32)) (y1 : Int32) (y2 : Int32) (L : M2) : Option (Int32) := letb (y2 + (1 : Int32)) (fun v_10 : Int32 => k_2 y1 v_10 L)
def fX1_isBesideBrother_c38  (L : M2) : Option (Int32) := some (1 : Int32)
def fX1_isBesideBrother_c2  : Nat → Int32 → Int32 → M2 → Option (Int32)
  | 0, _, _, _ => none
  | n + 1, y1, y2, L => (if (L 0 6) ≤ y2 then fX1_isBesideBrother_c46  L else (if y2 = y1 then fX1_isBesideBrother_c40 (fX1_isBesideBrother_c2 n) y1 y2 L else grd (inb y2 8) ((if (L 3 y2.toNatClampNeg) = (1 : Int32) then grd (inb y2 8) ((fX0_isOrIsUnder (L 2 y2.toNatClampNeg) (1 : Int32)).bind (fun (r_16 : Int32) => (if r_16 = 0 then fX1_isBesideBrother_c40 (fX1_isBesideBrother_c2 n) y1 y2 L else fX1_isBesideBrother_c38  L))) else fX1_isBesideBrother_c40 (fX1_isBesideBrother_c2 n) y1 y2 L))))
def fX1_isBesideBrother (x1 : Int32) (L : M2) : Option (Int32) := fX1_isBesideBrother_c2  FU x1 (0 : Int32) L
def rmX1_isBesideBrother : Room := { frames := 1, cells := 0, slots := 0, locals := 23 }
theorem hdX1_isBesideBrother : yX1_isBesideBrother.cls = yX1_isBesideBrother.cls ∧ yX1_isBesideBrother.cls ≠ "java/lang/invoke/MethodHandle" ∧ yX1_isBesideBrother.cls ≠ "java/lang/invoke/VarHandle" ∧ (parseMethodDescriptor yX1_isBesideBrother.desc).map (fun d => d.parameters.length) = some 1 := by decide +kernel
set_option maxHeartbeats 4000000 in
set_option maxRecDepth 100000 in
theorem kX1_isBesideBrother (l : Launch) (g : Gl) (ad : Nat → Nat) (sz : Nat) (L : M2) (x1 : Int32) (r : Int32)  (hf : fX1_isBesideBrother x1 L = some r) : MetPI l yX1_isBesideBrother (Cond.code yX1_isBesideBrother cX1_isBesideBrother 3 (some .boolean) :: wsL_law) rmX1_isBesideBrother [.ref (ad 0), .int x1] g (wL g ad L) sz r := by
  refine openPI (by decide +kernel) (Nat.le_of_ble_eq_true rfl) ?_
  intro p e s m args below meth c A C hE hA hH ls hl
  have hl : lv_has ls 3 [(0, .ref (ad 0)), (1, .int x1)] := hl
  have C : Cx p s m args meth c cX1_isBesideBrother 3 (some .boolean) RX1 := C
  obtain ⟨hx, hb, hml, hown, hT, hr, hlk⟩ := id C
  rw [fX1_isBesideBrother] at hf
  have lp_2 : ∀ (n_2 : Nat) (y1 : Int32) (y2 : Int32) (ls : Array Slot), fX1_isBesideBrother_c2  n_2 y1 y2 L = some r → lv_has ls 3 [(0, .ref (ad 0)), (1, .int y1), (2, .int y2)] → W p l e rmX1_isBesideBrother s m args below meth c s.heap [] 0 0 (QPI below args s r) (F0 m 2 ls []) := by
    intro n_2
    induction n_2 with
    | zero =>
      intro y1 y2  ls hf hl
      rw [fX1_isBesideBrother_c2] at hf
      cases hf
    | succ n_2 ih_2 =>
      intro y1 y2  ls hf hl
      rw [fX1_isBesideBrother_c2] at hf
      have j_46 : ∀  (ls : Array Slot), fX1_isBesideBrother_c46  L = some r → lv_has ls 3 [] → W p l e rmX1_isBesideBrother s m args below meth c s.heap [] 0 0 (QPI below args s r) (F0 m 46 ls []) := by
        intro  ls hf hl
        rw [fX1_isBesideBrother_c46] at hf
        refine lv_iconst (v := 0) hx hb dX1_isBesideBrother_46 (by decide) ?_
        have h1 := Option.some.inj hf
        subst h1
        exact retPI C (by decide) dX1_isBesideBrother_47
      have j_40 : ∀ (y1 : Int32) (y2 : Int32) (ls : Array Slot), fX1_isBesideBrother_c40 (fX1_isBesideBrother_c2 n_2) y1 y2 L = some r → lv_has ls 3 [(0, .ref (ad 0)), (1, .int y1), (2, .int y2)] → W p l e rmX1_isBesideBrother s m args below meth c s.heap [] 0 0 (QPI below args s r) (F0 m 40 ls []) := by
        intro y1 y2  ls hf hl
        rw [fX1_isBesideBrother_c40] at hf
        obtain ⟨v_10, ev_10⟩ : ∃ z : Int32, z = y2 + (1 : Int32) := ⟨_, rfl⟩
        have hf := letb_at hf v_10 ev_10
        refine lv_iinc (v := v_10) (lv' := [(2, .int v_10), (0, .ref (ad 0)), (1, .int y1)]) hx hb dX1_isBesideBrother_40 hl (k := 2) rfl (by rw [ev_10]; rfl) (by decide) rfl (fun ls hl => ?_)
        refine lv_goto (tgt := 2) hx hb dX1_isBesideBrother_43 (by decide) ?_
        exact ih_2 y1 v_10 ls hf (lv_sub hl [1, 2, 0] rfl)
      have j_38 : ∀  (ls : Array Slot), fX1_isBesideBrother_c38  L = some r → lv_has ls 3 [] → W p l e rmX1_isBesideBrother s m args below meth c s.heap [] 0 0 (QPI below args s r) (F0 m 38 ls []) := by
        intro  ls hf hl
        rw [fX1_isBesideBrother_c38] at hf
        refine lv_iconst (v := 1) hx hb dX1_isBesideBrother_38 (by decide) ?_
        have h1 := Option.some.inj hf
        subst h1
        exact retPI C (by decide) dX1_isBesideBrother_39
      refine lv_iload_n hx hb dX1_isBesideBrother_2 rfl (lv_at hl 2 rfl) ?_
      refine lv_aload_n hx hb dX1_isBesideBrother_3 rfl (lv_at hl 0 rfl) ?_
      refine gf_RX1_34 C hE hH 0 rfl rfl dX1_isBesideBrother_4 ?_
      refine lv_icmp_ge (tgt := 46) hx hb dX1_isBesideBrother_7 (by decide) (fun c_11 => ?_) (fun c_11 => ?_)
      · have hf := if_p hf c_11
        exact j_46  ls hf (lv_sub hl [] rfl)
      · have hf := if_n hf c_11
        refine lv_iload_n hx hb dX1_isBesideBrother_10 rfl (lv_at hl 2 rfl) ?_
        refine lv_iload_n hx hb dX1_isBesideBrother_11 rfl (lv_at hl 1 rfl) ?_
        refine lv_icmp_eq (tgt := 40) hx hb dX1_isBesideBrother_12 (by decide) (fun c_12 => ?_) (fun c_12 => ?_)
        · have hf := if_p hf c_12
          exact j_40 y1 y2 ls hf (lv_sub hl [0, 1, 2] rfl)
        · have hf := if_n hf c_12
          refine lv_aload_n hx hb dX1_isBesideBrother_15 rfl (lv_at hl 0 rfl) ?_
          refine gf_RX1_40 C hE hH 0 rfl rfl dX1_isBesideBrother_16 ?_
          refine lv_iload_n hx hb dX1_isBesideBrother_19 rfl (lv_at hl 2 rfl) ?_
          obtain ⟨hi_13, hf⟩ := grd_inv hf
          refine xiald C hE hH 3 rfl hi_13 dX1_isBesideBrother_20 ?_
          refine lv_iconst (v := 1) hx hb dX1_isBesideBrother_21 (by decide) ?_
          refine lv_icmp_ne (tgt := 40) hx hb dX1_isBesideBrother_22 (by decide) (fun c_14 => ?_) (fun c_14 => ?_)
          · have hf := if_n hf c_14
            exact j_40 y1 y2 ls hf (lv_sub hl [0, 1, 2] rfl)
          · have hf := if_p hf c_14
            refine lv_aload_n hx hb dX1_isBesideBrother_25 rfl (lv_at hl 0 rfl) ?_
            refine gf_RX1_37 C hE hH 0 rfl rfl dX1_isBesideBrother_26 ?_
            refine lv_iload_n hx hb dX1_isBesideBrother_29 rfl (lv_at hl 2 rfl) ?_
            obtain ⟨hi_15, hf⟩ := grd_inv hf
            refine xiald C hE hH 2 rfl hi_15 dX1_isBesideBrother_30 ?_
            refine lv_iconst (v := 1) hx hb dX1_isBesideBrother_31 (by decide) ?_
            obtain ⟨r_16, hc_17, hf⟩ := bind_inv hf
            refine aftPI (runS C hE hA hH [] rfl rfl (kX0_isOrIsUnder l g ad _ (L 2 y2.toNatClampNeg) (1 : Int32) r_16  hc_17) tw_9_18 tw_9_19 tw_9_20 tw_9_21 hdX0_isOrIsUnder rfl rfl ⟨Nat.le_of_ble_eq_true rfl, Nat.le_of_ble_eq_true rfl⟩ rfl hl.1 (rest := []) rfl (Nat.le_of_ble_eq_true rfl) dX1_isBesideBrother_32 ⟨Nat.zero_le _, Nat.zero_le _⟩) ?_
            refine lv_if_eq (tgt := 40) hx hb dX1_isBesideBrother_35 (by decide) (fun c_18 => ?_) (fun c_18 => ?_)
            · have hf := if_p hf c_18
              exact j_40 y1 y2 ls hf (lv_sub hl [0, 1, 2] rfl)
            · have hf := if_n hf c_18
              exact j_38  ls hf (lv_sub hl [] rfl)
  refine lv_iconst (v := 0) hx hb dX1_isBesideBrother_0 (by decide) ?_
  refine lv_istore_n (lv' := [(2, .int (0 : Int32)), (0, .ref (ad 0)), (1, .int x1)]) hx hb dX1_isBesideBrother_1 rfl hl (by decide) rfl (fun ls hl => ?_)
  exact lp_2 _ x1 (0 : Int32) ls hf (lv_sub hl [1, 2, 0] rfl)
def fX1_usesOf (x1 : Int32) (L : M2) : Option (Int32) := grd (inb x1 8) ((fX1_isBesideBrother x1 L).bind (fun (r_7 : Int32) => (fX0_uses (L 2 x1.toNatClampNeg) r_7).bind (fun (r_9 : Int32) => some r_9)))
def rmX1_usesOf : Room := { frames := 2, cells := 0, slots := 0, locals := 45 }
theorem hdX1_usesOf : yX1_usesOf.cls = yX1_usesOf.cls ∧ yX1_usesOf.cls ≠ "java/lang/invoke/MethodHandle" ∧ yX1_usesOf.cls ≠ "java/lang/invoke/VarHandle" ∧ (parseMethodDescriptor yX1_usesOf.desc).map (fun d => d.parameters.length) = some 1 := by decide +kernel
set_option maxHeartbeats 4000000 in
set_option maxRecDepth 100000 in
theorem kX1_usesOf (l : Launch) (g : Gl) (ad : Nat → Nat) (sz : Nat) (L : M2) (x1 : Int32) (r : Int32)  (hf : fX1_usesOf x1 L = some r) : MetPI l yX1_usesOf (Cond.code yX1_usesOf cX1_usesOf 2 (some .int) :: wsL_law) rmX1_usesOf [.ref (ad 0), .int x1] g (wL g ad L) sz r := by
  refine openPI (by decide +kernel) (Nat.le_of_ble_eq_true rfl) ?_
  intro p e s m args below meth c A C hE hA hH ls hl
  have hl : lv_has ls 2 [(0, .ref (ad 0)), (1, .int x1)] := hl
  have C : Cx p s m args meth c cX1_usesOf 2 (some .int) RX1 := C
  obtain ⟨hx, hb, hml, hown, hT, hr, hlk⟩ := id C
  rw [fX1_usesOf] at hf
  refine lv_aload_n hx hb dX1_usesOf_0 rfl (lv_at hl 0 rfl) ?_
  refine gf_RX1_37 C hE hH 0 rfl rfl dX1_usesOf_1 ?_
  refine lv_iload_n hx hb dX1_usesOf_4 rfl (lv_at hl 1 rfl) ?_
  obtain ⟨hi_6, hf⟩ := grd_inv hf
  refine xiald C hE hH 2 rfl hi_6 dX1_usesOf_5 ?_
  refine lv_aload_n hx hb dX1_usesOf_6 rfl (lv_at hl 0 rfl) ?_
  refine lv_iload_n hx hb dX1_usesOf_7 rfl (lv_at hl 1 rfl) ?_
  obtain ⟨r_7, hc_8, hf⟩ := bind_inv hf
  refine aftPI (runV C hE hA hH [0, 1, 2, 3, 4, 5, 6] nC_L_L_0_6 (sC_L_L_0_6 g ad L) (kX1_isBesideBrother l g ad _ L x1 r_7  hc_8) tw_9_14 tw_9_15 tw_9_16 tw_1_15 tw_9_17 hdX1_isBesideBrother 0 rfl rfl rfl rfl ⟨Nat.le_of_ble_eq_true rfl, Nat.le_of_ble_eq_true rfl⟩ rfl hl.1 (rest := [.int (L 2 x1.toNatClampNeg)]) rfl (Nat.le_of_ble_eq_true rfl) dX1_usesOf_8 ⟨Nat.zero_le _, Nat.zero_le _⟩) ?_
  obtain ⟨r_9, hc_10, hf⟩ := bind_inv hf
  refine aftPI (runS C hE hA hH [] rfl rfl (kX0_uses l g ad _ (L 2 x1.toNatClampNeg) r_7 r_9  hc_10) tw_9_23 tw_10_0 tw_9_20 tw_10_1 hdX0_uses rfl rfl ⟨Nat.le_of_ble_eq_true rfl, Nat.le_of_ble_eq_true rfl⟩ rfl hl.1 (rest := []) rfl (Nat.le_of_ble_eq_true rfl) dX1_usesOf_11 ⟨Nat.zero_le _, Nat.zero_le _⟩) ?_
  have h1 := Option.some.inj hf
  subst h1
  exact retPI C rfl dX1_usesOf_14
def fX1_usesTogether_c36  (y1 : Int32) (L : M2) : Option (Int32) := some y1
def fX1_usesTogether_c30 (k_4 : Int32 → Int32 → M2 → Option (Int32)) (y1 : Int32) (y2 : Int32) (L : M2) : Option (Int32) := letb (y2 + (1 : Int32)) (fun v_8 : Int32 => k_4 y1 v_8 L)
def fX1_usesTogether_c4  : Nat → Int32 → Int32 → M2 → Option (Int32)
  | 0, _, _, _ => none
  | n + 1, y1, y2, L => (if (L 0 6) ≤ y2 then fX1_usesTogether_c36  y1 L else grd (inb y2 8) ((if (L 3 y2.toNatClampNeg) = (1 : Int32) then (fX1_usesOf y2 L).bind (fun (r_12 : Int32) => letb (y1 + r_12) (fun v_14 : Int32 => fX1_usesTogether_c30 (fX1_usesTogether_c4 n) v_14 y2 L)) else fX1_usesTogether_c30 (fX1_usesTogether_c4 n) y1 y2 L)))
def fX1_usesTogether (L : M2) : Option (Int32) := fX1_usesTogether_c4  FU (0 : Int32) (0 : Int32) L
def rmX1_usesTogether : Room := { frames := 3, cells := 0, slots := 0, locals := 66 }
theorem hdX1_usesTogether : yX1_usesTogether.cls = yX1_usesTogether.cls ∧ yX1_usesTogether.cls ≠ "java/lang/invoke/MethodHandle" ∧ yX1_usesTogether.cls ≠ "java/lang/invoke/VarHandle" ∧ (parseMethodDescriptor yX1_usesTogether.desc).map (fun d => d.parameters.length) = some 0 := by decide +kernel
set_option maxHeartbeats 4000000 in
set_option maxRecDepth 100000 in
theorem kX1_usesTogether (l : Launch) (g : Gl) (ad : Nat → Nat) (sz : Nat) (L : M2)  (r : Int32)  (hf : fX1_usesTogether L = some r) : MetPI l yX1_usesTogether (Cond.code yX1_usesTogether cX1_usesTogether 3 (some .int) :: wsL_law) rmX1_usesTogether [.ref (ad 0)] g (wL g ad L) sz r := by
  refine openPI (by decide +kernel) (Nat.le_of_ble_eq_true rfl) ?_
  intro p e s m args below meth c A C hE hA hH ls hl
  have hl : lv_has ls 3 [(0, .ref (ad 0))] := hl
  have C : Cx p s m args meth c cX1_usesTogether 3 (some .int) RX1 := C
  obtain ⟨hx, hb, hml, hown, hT, hr, hlk⟩ := id C
  rw [fX1_usesTogether] at hf
  have lp_4 : ∀ (n_4 : Nat) (y1 : Int32) (y2 : Int32) (ls : Array Slot), fX1_usesTogether_c4  n_4 y1 y2 L = some r → lv_has ls 3 [(0, .ref (ad 0)), (1, .int y1), (2, .int y2)] → W p l e rmX1_usesTogether s m args below meth c s.heap [] 0 0 (QPI below args s r) (F0 m 4 ls []) := by
    intro n_4
    induction n_4 with
    | zero =>
      intro y1 y2  ls hf hl
      rw [fX1_usesTogether_c4] at hf
      cases hf
    | succ n_4 ih_4 =>
      intro y1 y2  ls hf hl
      rw [fX1_usesTogether_c4] at hf
      have j_36 : ∀ (y1 : Int32) (ls : Array Slot), fX1_usesTogether_c36  y1 L = some r → lv_has ls 3 [(1, .int y1)] → W p l e rmX1_usesTogether s m args below meth c s.heap [] 0 0 (QPI below args s r) (F0 m 36 ls []) := by
        intro y1  ls hf hl
        rw [fX1_usesTogether_c36] at hf
        refine lv_iload_n hx hb dX1_usesTogether_36 rfl (lv_at hl 0 rfl) ?_
        have h1 := Option.some.inj hf
        subst h1
        exact retPI C rfl dX1_usesTogether_37
      have j_30 : ∀ (y1 : Int32) (y2 : Int32) (ls : Array Slot), fX1_usesTogether_c30 (fX1_usesTogether_c4 n_4) y1 y2 L = some r → lv_has ls 3 [(0, .ref (ad 0)), (1, .int y1), (2, .int y2)] → W p l e rmX1_usesTogether s m args below meth c s.heap [] 0 0 (QPI below args s r) (F0 m 30 ls []) := by
        intro y1 y2  ls hf hl
        rw [fX1_usesTogether_c30] at hf
        obtain ⟨v_8, ev_8⟩ : ∃ z : Int32, z = y2 + (1 : Int32) := ⟨_, rfl⟩
        have hf := letb_at hf v_8 ev_8
        refine lv_iinc (v := v_8) (lv' := [(2, .int v_8), (0, .ref (ad 0)), (1, .int y1)]) hx hb dX1_usesTogether_30 hl (k := 2) rfl (by rw [ev_8]; rfl) (by decide) rfl (fun ls hl => ?_)
        refine lv_goto (tgt := 4) hx hb dX1_usesTogether_33 (by decide) ?_
        exact ih_4 y1 v_8 ls hf (lv_sub hl [1, 2, 0] rfl)
      refine lv_iload_n hx hb dX1_usesTogether_4 rfl (lv_at hl 2 rfl) ?_
      refine lv_aload_n hx hb dX1_usesTogether_5 rfl (lv_at hl 0 rfl) ?_
      refine gf_RX1_34 C hE hH 0 rfl rfl dX1_usesTogether_6 ?_
      refine lv_icmp_ge (tgt := 36) hx hb dX1_usesTogether_9 (by decide) (fun c_9 => ?_) (fun c_9 => ?_)
      · have hf := if_p hf c_9
        exact j_36 y1 ls hf (lv_sub hl [1] rfl)
      · have hf := if_n hf c_9
        refine lv_aload_n hx hb dX1_usesTogether_12 rfl (lv_at hl 0 rfl) ?_
        refine gf_RX1_40 C hE hH 0 rfl rfl dX1_usesTogether_13 ?_
        refine lv_iload_n hx hb dX1_usesTogether_16 rfl (lv_at hl 2 rfl) ?_
        obtain ⟨hi_10, hf⟩ := grd_inv hf
        refine xiald C hE hH 3 rfl hi_10 dX1_usesTogether_17 ?_
        refine lv_iconst (v := 1) hx hb dX1_usesTogether_18 (by decide) ?_
        refine lv_icmp_ne (tgt := 30) hx hb dX1_usesTogether_19 (by decide) (fun c_11 => ?_) (fun c_11 => ?_)
        · have hf := if_n hf c_11
          exact j_30 y1 y2 ls hf (lv_sub hl [0, 1, 2] rfl)
        · have hf := if_p hf c_11
          refine lv_iload_n hx hb dX1_usesTogether_22 rfl (lv_at hl 1 rfl) ?_
          refine lv_aload_n hx hb dX1_usesTogether_23 rfl (lv_at hl 0 rfl) ?_
          refine lv_iload_n hx hb dX1_usesTogether_24 rfl (lv_at hl 2 rfl) ?_
          obtain ⟨r_12, hc_13, hf⟩ := bind_inv hf
          refine aftPI (runV C hE hA hH [0, 1, 2, 3, 4, 5, 6] nC_L_L_0_6 (sC_L_L_0_6 g ad L) (kX1_usesOf l g ad _ L y2 r_12  hc_13) tw_14_13 tw_9_11 tw_9_12 tw_1_15 tw_9_13 hdX1_usesOf 0 rfl rfl rfl rfl ⟨Nat.le_of_ble_eq_true rfl, Nat.le_of_ble_eq_true rfl⟩ rfl hl.1 (rest := [.int y1]) rfl (Nat.le_of_ble_eq_true rfl) dX1_usesTogether_25 ⟨Nat.zero_le _, Nat.zero_le _⟩) ?_
          refine lv_iadd hx hb dX1_usesTogether_28 ?_
          refine lv_topi (fun v_14 ev_14 => ?_)
          have hf := letb_at hf v_14 ev_14
          refine lv_istore_n (lv' := [(1, .int v_14), (0, .ref (ad 0)), (2, .int y2)]) hx hb dX1_usesTogether_29 rfl hl (by decide) rfl (fun ls hl => ?_)
          exact j_30 v_14 y2 ls hf (lv_sub hl [1, 0, 2] rfl)
  refine lv_iconst (v := 0) hx hb dX1_usesTogether_0 (by decide) ?_
  refine lv_istore_n (lv' := [(1, .int (0 : Int32)), (0, .ref (ad 0))]) hx hb dX1_usesTogether_1 rfl hl (by decide) rfl (fun ls hl => ?_)
  refine lv_iconst (v := 0) hx hb dX1_usesTogether_2 (by decide) ?_
  refine lv_istore_n (lv' := [(2, .int (0 : Int32)), (1, .int (0 : Int32)), (0, .ref (ad 0))]) hx hb dX1_usesTogether_3 rfl hl (by decide) rfl (fun ls hl => ?_)
  exact lp_4 _ (0 : Int32) (0 : Int32) ls hf (lv_sub hl [2, 1, 0] rfl)
def fX1_burnOil_c42  (L : M2) : Option (M2) := some L
def fX1_burnOil (x1 : Int32) (L : M2) : Option (M2) := (if x1 ≤ (L 0 2) then letb (st2 L 0 (upd (L 0) 2 ((L 0 2) - x1))) (fun L_6 : M2 => fX1_burnOil_c42  L_6) else letb (st2 L 0 (upd (L 0) 2 (0 : Int32))) (fun L_7 : M2 => letb (st2 L_7 0 (upd (L_7 0) 5 (if (L_7 0 5) + (1 : Int32) < (9999 : Int32) then (L_7 0 5) + (1 : Int32) else (9999 : Int32)))) (fun L_8 : M2 => fX1_burnOil_c42  L_8)))
def rmX1_burnOil : Room := { frames := 1, cells := 0, slots := 0, locals := 21 }
theorem hdX1_burnOil : yX1_burnOil.cls = yX1_burnOil.cls ∧ yX1_burnOil.cls ≠ "java/lang/invoke/MethodHandle" ∧ yX1_burnOil.cls ≠ "java/lang/invoke/VarHandle" ∧ (parseMethodDescriptor yX1_burnOil.desc).map (fun d => d.parameters.length) = some 1 := by decide +kernel
set_option maxHeartbeats 4000000 in
set_option maxRecDepth 100000 in
theorem kX1_burnOil (l : Launch) (g : Gl) (ad : Nat → Nat) (sz : Nat) (L : M2) (x1 : Int32) (L' : M2)  (hf : fX1_burnOil x1 L = some L') : MetV l yX1_burnOil (Cond.code yX1_burnOil cX1_burnOil 2 none :: wsL_law) rmX1_burnOil [.ref (ad 0), .int x1] g (wL g ad L) sz (wL g ad L') := by
  refine openV (by decide +kernel) (Nat.le_of_ble_eq_true rfl) ?_
  intro p e s m args below meth c A C hE hA hH ls hl
  have hl : lv_has ls 2 [(0, .ref (ad 0)), (1, .int x1)] := hl
  have C : Cx p s m args meth c cX1_burnOil 2 none RX1 := C
  obtain ⟨hx, hb, hml, hown, hT, hr, hlk⟩ := id C
  rw [fX1_burnOil] at hf
  have j_42 : ∀ (L : M2) (H : Heap) (locs : List Loc) (ls : Array Slot), fX1_burnOil_c42  L = some L' → Hp g A s H locs (wL g ad L) → lv_has ls 2 [] → W p l e rmX1_burnOil s m args below meth c H locs 0 0 (QV g A below args s (wL g ad L')) (F0 m 42 ls []) := by
    intro L H locs  ls hf hH hl
    rw [fX1_burnOil_c42] at hf
    have h1 := Option.some.inj hf
    subst h1
    exact retV C hH dX1_burnOil_42
  refine lv_aload_n hx hb dX1_burnOil_0 rfl (lv_at hl 0 rfl) ?_
  refine gf_RX1_25 C hE hH 0 rfl rfl dX1_burnOil_1 ?_
  refine lv_iload_n hx hb dX1_burnOil_4 rfl (lv_at hl 1 rfl) ?_
  refine lv_icmp_ge (tgt := 32) hx hb dX1_burnOil_5 (by decide) (fun c_5 => ?_) (fun c_5 => ?_)
  · have hf := if_p hf c_5
    refine lv_aload_n hx hb dX1_burnOil_32 rfl (lv_at hl 0 rfl) ?_
    refine lv_dup hx hb dX1_burnOil_33 rfl ?_
    refine gf_RX1_25 C hE hH 0 rfl rfl dX1_burnOil_34 ?_
    refine lv_iload_n hx hb dX1_burnOil_37 rfl (lv_at hl 1 rfl) ?_
    refine lv_isub hx hb dX1_burnOil_38 ?_
    refine pf_RX1_25 C hE hH 0 rfl rfl rfl (Nat.le_of_ble_eq_true rfl) (fun q : M2 => wL g ad q) (st2 L 0 (upd (L 0) 2 ((L 0 2) - x1))) rfl dX1_burnOil_39 (fun L_6 eL_6 H locs hH => ?_)
    have hf := letb_at hf L_6 eL_6
    exact j_42 L_6 _ _ ls hf hH (lv_sub hl [] rfl)
  · have hf := if_n hf c_5
    refine lv_aload_n hx hb dX1_burnOil_8 rfl (lv_at hl 0 rfl) ?_
    refine lv_iconst (v := 0) hx hb dX1_burnOil_9 (by decide) ?_
    refine pf_RX1_25 C hE hH 0 rfl rfl rfl (Nat.le_of_ble_eq_true rfl) (fun q : M2 => wL g ad q) (st2 L 0 (upd (L 0) 2 (0 : Int32))) rfl dX1_burnOil_10 (fun L_7 eL_7 H locs hH => ?_)
    have hf := letb_at hf L_7 eL_7
    refine lv_aload_n hx hb dX1_burnOil_13 rfl (lv_at hl 0 rfl) ?_
    refine lv_sipush (v := 9999) hx hb dX1_burnOil_14 (by decide) ?_
    refine lv_aload_n hx hb dX1_burnOil_17 rfl (lv_at hl 0 rfl) ?_
    refine gf_RX1_31 C hE hH 0 rfl rfl dX1_burnOil_18 ?_
    refine lv_iconst (v := 1) hx hb dX1_burnOil_21 (by decide) ?_
    refine lv_iadd hx hb dX1_burnOil_22 ?_
    refine va_mmin hx hb (hml.trans hl.1.symm) hown (hT _ tw_14_18) (hT _ tw_14_19) (hT _ tw_14_20) (hT _ tw_14_21) (Nat.le_of_ble_eq_true rfl) (Nat.le_of_ble_eq_true rfl) (Nat.zero_le _) (Nat.zero_le _) dX1_burnOil_23 ?_
    refine pf_RX1_31 C hE hH 0 rfl rfl rfl (Nat.le_of_ble_eq_true rfl) (fun q : M2 => wL g ad q) (st2 L_7 0 (upd (L_7 0) 5 (if (L_7 0 5) + (1 : Int32) < (9999 : Int32) then (L_7 0 5) + (1 : Int32) else (9999 : Int32)))) rfl dX1_burnOil_26 (fun L_8 eL_8 H locs hH => ?_)
    have hf := letb_at hf L_8 eL_8
    refine lv_goto (tgt := 42) hx hb dX1_burnOil_29 (by decide) ?_
    exact j_42 L_8 _ _ ls hf hH (lv_sub hl [] rfl)
def fX1_leastOf_c44  (y2 : Int32) : Option (Int32) := some y2
def fX1_leastOf_c38 (k_7 : Int32 → Int32 → Int32 → Int32 → Option (Int32)) (y0 : Int32) (y2 : Int32) (y3 : Int32) (y4 : Int32) : Option (Int32) := letb (y4 + (1 : Int32)) (fun v_7 : Int32 => k_7 y0 y2 y3 v_7)
def fX1_leastOf_c7  : Nat → Int32 → Int32 → Int32 → Int32 → Option (Int32)
  | 0, _, _, _, _ => none
  | n + 1, y0, y2, y3, y4 => (if (9 : Int32) ≤ y4 then fX1_leastOf_c44  y2 else (if y3 ≤ 0 then fX1_leastOf_c44  y2 else (if ((y0 >>> (y4 &&& 31)) &&& (1 : Int32)) = (1 : Int32) then letb (y2 ||| ((1 : Int32) <<< (y4 &&& 31))) (fun v_11 : Int32 => letb (y3 + (-1 : Int32)) (fun v_12 : Int32 => fX1_leastOf_c38 (fX1_leastOf_c7 n) y0 v_11 v_12 y4)) else fX1_leastOf_c38 (fX1_leastOf_c7 n) y0 y2 y3 y4)))
def fX1_leastOf (x1 : Int32) (x2 : Int32) : Option (Int32) := fX1_leastOf_c7  FU x1 (0 : Int32) x2 (0 : Int32)
def rmX1_leastOf : Room := { frames := 0, cells := 0, slots := 0, locals := 0 }
theorem hdX1_leastOf : yX1_leastOf.cls = yX1_leastOf.cls ∧ yX1_leastOf.cls ≠ "java/lang/invoke/MethodHandle" ∧ yX1_leastOf.cls ≠ "java/lang/invoke/VarHandle" ∧ (parseMethodDescriptor yX1_leastOf.desc).map (fun d => d.parameters.length) = some 2 := by decide +kernel
set_option maxHeartbeats 4000000 in
set_option maxRecDepth 100000 in
theorem kX1_leastOf (l : Launch) (g : Gl) (ad : Nat → Nat) (sz : Nat)  (x1 : Int32) (x2 : Int32) (r : Int32)  (hf : fX1_leastOf x1 x2 = some r) : MetPI l yX1_leastOf (Cond.code yX1_leastOf cX1_leastOf 5 (some .int) :: wsL_law) rmX1_leastOf [.int x1, .int x2] g ([]) sz r := by
  refine openPI (by decide +kernel) (Nat.le_of_ble_eq_true rfl) ?_
  intro p e s m args below meth c A C hE hA hH ls hl
  have hl : lv_has ls 5 [(0, .int x1), (1, .int x2)] := hl
  have C : Cx p s m args meth c cX1_leastOf 5 (some .int) RX1 := C
  obtain ⟨hx, hb, hml, hown, hT, hr, hlk⟩ := id C
  rw [fX1_leastOf] at hf
  have lp_7 : ∀ (n_7 : Nat) (y0 : Int32) (y2 : Int32) (y3 : Int32) (y4 : Int32) (ls : Array Slot), fX1_leastOf_c7  n_7 y0 y2 y3 y4 = some r → lv_has ls 5 [(0, .int y0), (2, .int y2), (3, .int y3), (4, .int y4)] → W p l e rmX1_leastOf s m args below meth c s.heap [] 0 0 (QPI below args s r) (F0 m 7 ls []) := by
    intro n_7
    induction n_7 with
    | zero =>
      intro y0 y2 y3 y4  ls hf hl
      rw [fX1_leastOf_c7] at hf
      cases hf
    | succ n_7 ih_7 =>
      intro y0 y2 y3 y4  ls hf hl
      rw [fX1_leastOf_c7] at hf
      have j_44 : ∀ (y2 : Int32) (ls : Array Slot), fX1_leastOf_c44  y2 = some r → lv_has ls 5 [(2, .int y2)] → W p l e rmX1_leastOf s m args below meth c s.heap [] 0 0 (QPI below args s r) (F0 m 44 ls []) := by
        intro y2  ls hf hl
        rw [fX1_leastOf_c44] at hf
        refine lv_iload_n hx hb dX1_leastOf_44 rfl (lv_at hl 0 rfl) ?_
        have h1 := Option.some.inj hf
        subst h1
        exact retPI C rfl dX1_leastOf_45
      have j_38 : ∀ (y0 : Int32) (y2 : Int32) (y3 : Int32) (y4 : Int32) (ls : Array Slot), fX1_leastOf_c38 (fX1_leastOf_c7 n_7) y0 y2 y3 y4 = some r → lv_has ls 5 [(0, .int y0), (2, .int y2), (3, .int y3), (4, .int y4)] → W p l e rmX1_leastOf s m args below meth c s.heap [] 0 0 (QPI below args s r) (F0 m 38 ls []) := by
        intro y0 y2 y3 y4  ls hf hl
        rw [fX1_leastOf_c38] at hf
        obtain ⟨v_7, ev_7⟩ : ∃ z : Int32, z = y4 + (1 : Int32) := ⟨_, rfl⟩
        have hf := letb_at hf v_7 ev_7
        refine lv_iinc (v := v_7) (lv' := [(4, .int v_7), (0, .int y0), (2, .int y2), (3, .int y3)]) hx hb dX1_leastOf_38 hl (k := 3) rfl (by rw [ev_7]; rfl) (by decide) rfl (fun ls hl => ?_)
        refine lv_goto (tgt := 7) hx hb dX1_leastOf_41 (by decide) ?_
        exact ih_7 y0 y2 y3 v_7 ls hf (lv_sub hl [1, 2, 3, 0] rfl)
      refine lv_iload hx hb dX1_leastOf_7 (lv_at hl 3 rfl) ?_
      refine lv_bipush (v := 9) hx hb dX1_leastOf_9 (by decide) ?_
      refine lv_icmp_ge (tgt := 44) hx hb dX1_leastOf_11 (by decide) (fun c_8 => ?_) (fun c_8 => ?_)
      · have hf := if_p hf c_8
        exact j_44 y2 ls hf (lv_sub hl [1] rfl)
      · have hf := if_n hf c_8
        refine lv_iload_n hx hb dX1_leastOf_14 rfl (lv_at hl 2 rfl) ?_
        refine lv_if_le (tgt := 44) hx hb dX1_leastOf_15 (by decide) (fun c_9 => ?_) (fun c_9 => ?_)
        · have hf := if_p hf c_9
          exact j_44 y2 ls hf (lv_sub hl [1] rfl)
        · have hf := if_n hf c_9
          refine lv_iload_n hx hb dX1_leastOf_18 rfl (lv_at hl 0 rfl) ?_
          refine lv_iload hx hb dX1_leastOf_19 (lv_at hl 3 rfl) ?_
          refine lv_ishr hx hb dX1_leastOf_21 ?_
          refine lv_iconst (v := 1) hx hb dX1_leastOf_22 (by decide) ?_
          refine lv_iand hx hb dX1_leastOf_23 ?_
          refine lv_iconst (v := 1) hx hb dX1_leastOf_24 (by decide) ?_
          refine lv_icmp_ne (tgt := 38) hx hb dX1_leastOf_25 (by decide) (fun c_10 => ?_) (fun c_10 => ?_)
          · have hf := if_n hf c_10
            exact j_38 y0 y2 y3 y4 ls hf (lv_sub hl [0, 1, 2, 3] rfl)
          · have hf := if_p hf c_10
            refine lv_iload_n hx hb dX1_leastOf_28 rfl (lv_at hl 1 rfl) ?_
            refine lv_iconst (v := 1) hx hb dX1_leastOf_29 (by decide) ?_
            refine lv_iload hx hb dX1_leastOf_30 (lv_at hl 3 rfl) ?_
            refine lv_ishl hx hb dX1_leastOf_32 ?_
            refine lv_ior hx hb dX1_leastOf_33 ?_
            refine lv_topi (fun v_11 ev_11 => ?_)
            have hf := letb_at hf v_11 ev_11
            refine lv_istore_n (lv' := [(2, .int v_11), (0, .int y0), (3, .int y3), (4, .int y4)]) hx hb dX1_leastOf_34 rfl hl (by decide) rfl (fun ls hl => ?_)
            obtain ⟨v_12, ev_12⟩ : ∃ z : Int32, z = y3 + (-1 : Int32) := ⟨_, rfl⟩
            have hf := letb_at hf v_12 ev_12
            refine lv_iinc (v := v_12) (lv' := [(3, .int v_12), (2, .int v_11), (0, .int y0), (4, .int y4)]) hx hb dX1_leastOf_35 hl (k := 2) rfl (by rw [ev_12]; rfl) (by decide) rfl (fun ls hl => ?_)
            exact j_38 y0 v_11 v_12 y4 ls hf (lv_sub hl [2, 1, 0, 3] rfl)
  refine lv_iconst (v := 0) hx hb dX1_leastOf_0 (by decide) ?_
  refine lv_istore_n (lv' := [(2, .int (0 : Int32)), (0, .int x1), (1, .int x2)]) hx hb dX1_leastOf_1 rfl hl (by decide) rfl (fun ls hl => ?_)
  refine lv_iload_n hx hb dX1_leastOf_2 rfl (lv_at hl 2 rfl) ?_
  refine lv_istore_n (lv' := [(3, .int x2), (2, .int (0 : Int32)), (0, .int x1), (1, .int x2)]) hx hb dX1_leastOf_3 rfl hl (by decide) rfl (fun ls hl => ?_)
  refine lv_iconst (v := 0) hx hb dX1_leastOf_4 (by decide) ?_
  refine lv_istore (lv' := [(4, .int (0 : Int32)), (3, .int x2), (2, .int (0 : Int32)), (0, .int x1), (1, .int x2)]) hx hb dX1_leastOf_5 hl (by decide) rfl (fun ls hl => ?_)
  exact lp_7 _ x1 (0 : Int32) x2 (0 : Int32) ls hf (lv_sub hl [3, 2, 1, 0] rfl)
def fX1_longestStanding_c49  (y2 : Int32) (L : M2) : Option (Int32) := some y2
def fX1_longestStanding_c43 (k_4 : Int32 → Int32 → Int32 → M2 → Option (Int32)) (y1 : Int32) (y2 : Int32) (y3 : Int32) (L : M2) : Option (Int32) := letb (y3 + (1 : Int32)) (fun v_9 : Int32 => k_4 y1 y2 v_9 L)
def fX1_longestStanding_c41 (k_4 : Int32 → Int32 → Int32 → M2 → Option (Int32)) (y1 : Int32) (y3 : Int32) (L : M2) : Option (Int32) := fX1_longestStanding_c43 k_4 y1 y3 y3 L
def fX1_longestStanding_c4  : Nat → Int32 → Int32 → Int32 → M2 → Option (Int32)
  | 0, _, _, _, _ => none
  | n + 1, y1, y2, y3, L => (if (L 0 6) ≤ y3 then fX1_longestStanding_c49  y2 L else grd (inb y3 8) ((if (L 3 y3.toNatClampNeg) = y1 then (if y2 < 0 then fX1_longestStanding_c41 (fX1_longestStanding_c4 n) y1 y3 L else grd (inb y3 8) (grd (inb y2 8) ((if (L 4 y2.toNatClampNeg) ≤ (L 4 y3.toNatClampNeg) then fX1_longestStanding_c43 (fX1_longestStanding_c4 n) y1 y2 y3 L else fX1_longestStanding_c41 (fX1_longestStanding_c4 n) y1 y3 L)))) else fX1_longestStanding_c43 (fX1_longestStanding_c4 n) y1 y2 y3 L)))
def fX1_longestStanding (x1 : Int32) (L : M2) : Option (Int32) := fX1_longestStanding_c4  FU x1 (-1 : Int32) (0 : Int32) L
def rmX1_longestStanding : Room := { frames := 0, cells := 0, slots := 0, locals := 0 }
theorem hdX1_longestStanding : yX1_longestStanding.cls = yX1_longestStanding.cls ∧ yX1_longestStanding.cls ≠ "java/lang/invoke/MethodHandle" ∧ yX1_longestStanding.cls ≠ "java/lang/invoke/VarHandle" ∧ (parseMethodDescriptor yX1_longestStanding.desc).map (fun d => d.parameters.length) = some 1 := by decide +kernel
set_option maxHeartbeats 4000000 in
set_option maxRecDepth 100000 in
theorem kX1_longestStanding (l : Launch) (g : Gl) (ad : Nat → Nat) (sz : Nat) (L : M2) (x1 : Int32) (r : Int32)  (hf : fX1_longestStanding x1 L = some r) : MetPI l yX1_longestStanding (Cond.code yX1_longestStanding cX1_longestStanding 4 (some .int) :: wsL_law) rmX1_longestStanding [.ref (ad 0), .int x1] g (wL g ad L) sz r := by
  refine openPI (by decide +kernel) (Nat.le_of_ble_eq_true rfl) ?_
  intro p e s m args below meth c A C hE hA hH ls hl
  have hl : lv_has ls 4 [(0, .ref (ad 0)), (1, .int x1)] := hl
  have C : Cx p s m args meth c cX1_longestStanding 4 (some .int) RX1 := C
  obtain ⟨hx, hb, hml, hown, hT, hr, hlk⟩ := id C
  rw [fX1_longestStanding] at hf
  have lp_4 : ∀ (n_4 : Nat) (y1 : Int32) (y2 : Int32) (y3 : Int32) (ls : Array Slot), fX1_longestStanding_c4  n_4 y1 y2 y3 L = some r → lv_has ls 4 [(0, .ref (ad 0)), (1, .int y1), (2, .int y2), (3, .int y3)] → W p l e rmX1_longestStanding s m args below meth c s.heap [] 0 0 (QPI below args s r) (F0 m 4 ls []) := by
    intro n_4
    induction n_4 with
    | zero =>
      intro y1 y2 y3  ls hf hl
      rw [fX1_longestStanding_c4] at hf
      cases hf
    | succ n_4 ih_4 =>
      intro y1 y2 y3  ls hf hl
      rw [fX1_longestStanding_c4] at hf
      have j_49 : ∀ (y2 : Int32) (ls : Array Slot), fX1_longestStanding_c49  y2 L = some r → lv_has ls 4 [(2, .int y2)] → W p l e rmX1_longestStanding s m args below meth c s.heap [] 0 0 (QPI below args s r) (F0 m 49 ls []) := by
        intro y2  ls hf hl
        rw [fX1_longestStanding_c49] at hf
        refine lv_iload_n hx hb dX1_longestStanding_49 rfl (lv_at hl 0 rfl) ?_
        have h1 := Option.some.inj hf
        subst h1
        exact retPI C rfl dX1_longestStanding_50
      have j_43 : ∀ (y1 : Int32) (y2 : Int32) (y3 : Int32) (ls : Array Slot), fX1_longestStanding_c43 (fX1_longestStanding_c4 n_4) y1 y2 y3 L = some r → lv_has ls 4 [(0, .ref (ad 0)), (1, .int y1), (2, .int y2), (3, .int y3)] → W p l e rmX1_longestStanding s m args below meth c s.heap [] 0 0 (QPI below args s r) (F0 m 43 ls []) := by
        intro y1 y2 y3  ls hf hl
        rw [fX1_longestStanding_c43] at hf
        obtain ⟨v_9, ev_9⟩ : ∃ z : Int32, z = y3 + (1 : Int32) := ⟨_, rfl⟩
        have hf := letb_at hf v_9 ev_9
        refine lv_iinc (v := v_9) (lv' := [(3, .int v_9), (0, .ref (ad 0)), (1, .int y1), (2, .int y2)]) hx hb dX1_longestStanding_43 hl (k := 3) rfl (by rw [ev_9]; rfl) (by decide) rfl (fun ls hl => ?_)
        refine lv_goto (tgt := 4) hx hb dX1_longestStanding_46 (by decide) ?_
        exact ih_4 y1 y2 v_9 ls hf (lv_sub hl [1, 2, 3, 0] rfl)
      have j_41 : ∀ (y1 : Int32) (y3 : Int32) (ls : Array Slot), fX1_longestStanding_c41 (fX1_longestStanding_c4 n_4) y1 y3 L = some r → lv_has ls 4 [(0, .ref (ad 0)), (1, .int y1), (3, .int y3)] → W p l e rmX1_longestStanding s m args below meth c s.heap [] 0 0 (QPI below args s r) (F0 m 41 ls []) := by
        intro y1 y3  ls hf hl
        rw [fX1_longestStanding_c41] at hf
        refine lv_iload_n hx hb dX1_longestStanding_41 rfl (lv_at hl 2 rfl) ?_
        refine lv_istore_n (lv' := [(2, .int y3), (0, .ref (ad 0)), (1, .int y1), (3, .int y3)]) hx hb dX1_longestStanding_42 rfl hl (by decide) rfl (fun ls hl => ?_)
        exact j_43 y1 y3 y3 ls hf (lv_sub hl [1, 2, 0, 3] rfl)
      refine lv_iload_n hx hb dX1_longestStanding_4 rfl (lv_at hl 3 rfl) ?_
      refine lv_aload_n hx hb dX1_longestStanding_5 rfl (lv_at hl 0 rfl) ?_
      refine gf_RX1_34 C hE hH 0 rfl rfl dX1_longestStanding_6 ?_
      refine lv_icmp_ge (tgt := 49) hx hb dX1_longestStanding_9 (by decide) (fun c_10 => ?_) (fun c_10 => ?_)
      · have hf := if_p hf c_10
        exact j_49 y2 ls hf (lv_sub hl [2] rfl)
      · have hf := if_n hf c_10
        refine lv_aload_n hx hb dX1_longestStanding_12 rfl (lv_at hl 0 rfl) ?_
        refine gf_RX1_40 C hE hH 0 rfl rfl dX1_longestStanding_13 ?_
        refine lv_iload_n hx hb dX1_longestStanding_16 rfl (lv_at hl 3 rfl) ?_
        obtain ⟨hi_11, hf⟩ := grd_inv hf
        refine xiald C hE hH 3 rfl hi_11 dX1_longestStanding_17 ?_
        refine lv_iload_n hx hb dX1_longestStanding_18 rfl (lv_at hl 1 rfl) ?_
        refine lv_icmp_ne (tgt := 43) hx hb dX1_longestStanding_19 (by decide) (fun c_12 => ?_) (fun c_12 => ?_)
        · have hf := if_n hf c_12
          exact j_43 y1 y2 y3 ls hf (lv_sub hl [0, 1, 2, 3] rfl)
        · have hf := if_p hf c_12
          refine lv_iload_n hx hb dX1_longestStanding_22 rfl (lv_at hl 2 rfl) ?_
          refine lv_if_lt (tgt := 41) hx hb dX1_longestStanding_23 (by decide) (fun c_13 => ?_) (fun c_13 => ?_)
          · have hf := if_p hf c_13
            exact j_41 y1 y3 ls hf (lv_sub hl [0, 1, 3] rfl)
          · have hf := if_n hf c_13
            refine lv_aload_n hx hb dX1_longestStanding_26 rfl (lv_at hl 0 rfl) ?_
            refine gf_RX1_43 C hE hH 0 rfl rfl dX1_longestStanding_27 ?_
            refine lv_iload_n hx hb dX1_longestStanding_30 rfl (lv_at hl 3 rfl) ?_
            obtain ⟨hi_14, hf⟩ := grd_inv hf
            refine xiald C hE hH 4 rfl hi_14 dX1_longestStanding_31 ?_
            refine lv_aload_n hx hb dX1_longestStanding_32 rfl (lv_at hl 0 rfl) ?_
            refine gf_RX1_43 C hE hH 0 rfl rfl dX1_longestStanding_33 ?_
            refine lv_iload_n hx hb dX1_longestStanding_36 rfl (lv_at hl 2 rfl) ?_
            obtain ⟨hi_15, hf⟩ := grd_inv hf
            refine xiald C hE hH 4 rfl hi_15 dX1_longestStanding_37 ?_
            refine lv_icmp_ge (tgt := 43) hx hb dX1_longestStanding_38 (by decide) (fun c_16 => ?_) (fun c_16 => ?_)
            · have hf := if_p hf c_16
              exact j_43 y1 y2 y3 ls hf (lv_sub hl [0, 1, 2, 3] rfl)
            · have hf := if_n hf c_16
              exact j_41 y1 y3 ls hf (lv_sub hl [0, 1, 3] rfl)
  refine lv_iconst (v := (-1)) hx hb dX1_longestStanding_0 (by decide) ?_
  refine lv_istore_n (lv' := [(2, .int (-1 : Int32)), (0, .ref (ad 0)), (1, .int x1)]) hx hb dX1_longestStanding_1 rfl hl (by decide) rfl (fun ls hl => ?_)
  refine lv_iconst (v := 0) hx hb dX1_longestStanding_2 (by decide) ?_
  refine lv_istore_n (lv' := [(3, .int (0 : Int32)), (2, .int (-1 : Int32)), (0, .ref (ad 0)), (1, .int x1)]) hx hb dX1_longestStanding_3 rfl hl (by decide) rfl (fun ls hl => ?_)
  exact lp_4 _ x1 (-1 : Int32) (0 : Int32) ls hf (lv_sub hl [2, 3, 1, 0] rfl)
def fX1_meetInMidAir (x1 : Int32) (x2 : Int32) (x3 : Int32) (L : M2) : Option (M2) := grd (inb x1 8) (grd (inb x1 8) (letb (st2 L 6 (upd (L 6) x1.toNatClampNeg (if (L 6 x1.toNatClampNeg) + (1 : Int32) < (9999 : Int32) then (L 6 x1.toNatClampNeg) + (1 : Int32) else (9999 : Int32)))) (fun L_31 : M2 => grd (inb x2 8) (grd (inb x2 8) (letb (st2 L_31 6 (upd (L_31 6) x2.toNatClampNeg (if (L_31 6 x2.toNatClampNeg) + (1 : Int32) < (9999 : Int32) then (L_31 6 x2.toNatClampNeg) + (1 : Int32) else (9999 : Int32)))) (fun L_34 : M2 => grd (inb x1 8) (letb (L_34 5 x1.toNatClampNeg) (fun v_36 : Int32 => grd (inb x2 8) (letb (L_34 5 x2.toNatClampNeg) (fun v_38 : Int32 => grd (inb x1 8) (grd (inb x2 8) ((fX0_tells (L_34 2 x2.toNatClampNeg) x3).bind (fun (r_41 : Int32) => (fX1_leastOf (v_38 &&& (v_36 ^^^ (-1 : Int32))) r_41).bind (fun (r_43 : Int32) => grd (inb x1 8) (letb (st2 L_34 5 (upd (L_34 5) x1.toNatClampNeg ((L_34 5 x1.toNatClampNeg) ||| r_43))) (fun L_46 : M2 => grd (inb x2 8) (grd (inb x1 8) ((fX0_tells (L_46 2 x1.toNatClampNeg) x3).bind (fun (r_49 : Int32) => (fX1_leastOf (v_36 &&& (v_38 ^^^ (-1 : Int32))) r_49).bind (fun (r_51 : Int32) => grd (inb x2 8) (letb (st2 L_46 5 (upd (L_46 5) x2.toNatClampNeg ((L_46 5 x2.toNatClampNeg) ||| r_51))) (fun L_54 : M2 => letb (st2 L_54 0 (upd (L_54 0) 7 x1)) (fun L_55 : M2 => letb (st2 L_55 0 (upd (L_55 0) 8 x2)) (fun L_56 : M2 => some L_56))))))))))))))))))))))))
def rmX1_meetInMidAir : Room := { frames := 1, cells := 0, slots := 0, locals := 24 }
theorem hdX1_meetInMidAir : yX1_meetInMidAir.cls = yX1_meetInMidAir.cls ∧ yX1_meetInMidAir.cls ≠ "java/lang/invoke/MethodHandle" ∧ yX1_meetInMidAir.cls ≠ "java/lang/invoke/VarHandle" ∧ (parseMethodDescriptor yX1_meetInMidAir.desc).map (fun d => d.parameters.length) = some 3 := by decide +kernel
set_option maxHeartbeats 4000000 in
set_option maxRecDepth 100000 in
theorem kX1_meetInMidAir (l : Launch) (g : Gl) (ad : Nat → Nat) (sz : Nat) (L : M2) (x1 : Int32) (x2 : Int32) (x3 : Int32) (L' : M2)  (hf : fX1_meetInMidAir x1 x2 x3 L = some L') : MetV l yX1_meetInMidAir (Cond.code yX1_meetInMidAir cX1_meetInMidAir 6 none :: wsL_law) rmX1_meetInMidAir [.ref (ad 0), .int x1, .int x2, .int x3] g (wL g ad L) sz (wL g ad L') := by
  refine openV (by decide +kernel) (Nat.le_of_ble_eq_true rfl) ?_
  intro p e s m args below meth c A C hE hA hH ls hl
  have hl : lv_has ls 6 [(0, .ref (ad 0)), (1, .int x1), (2, .int x2), (3, .int x3)] := hl
  have C : Cx p s m args meth c cX1_meetInMidAir 6 none RX1 := C
  obtain ⟨hx, hb, hml, hown, hT, hr, hlk⟩ := id C
  rw [fX1_meetInMidAir] at hf
  refine lv_aload_n hx hb dX1_meetInMidAir_0 rfl (lv_at hl 0 rfl) ?_
  refine gf_RX1_49 C hE hH 0 rfl rfl dX1_meetInMidAir_1 ?_
  refine lv_iload_n hx hb dX1_meetInMidAir_4 rfl (lv_at hl 1 rfl) ?_
  refine lv_sipush (v := 9999) hx hb dX1_meetInMidAir_5 (by decide) ?_
  refine lv_aload_n hx hb dX1_meetInMidAir_8 rfl (lv_at hl 0 rfl) ?_
  refine gf_RX1_49 C hE hH 0 rfl rfl dX1_meetInMidAir_9 ?_
  refine lv_iload_n hx hb dX1_meetInMidAir_12 rfl (lv_at hl 1 rfl) ?_
  obtain ⟨hi_29, hf⟩ := grd_inv hf
  refine xiald C hE hH 6 rfl hi_29 dX1_meetInMidAir_13 ?_
  refine lv_iconst (v := 1) hx hb dX1_meetInMidAir_14 (by decide) ?_
  refine lv_iadd hx hb dX1_meetInMidAir_15 ?_
  refine va_mmin hx hb (hml.trans hl.1.symm) hown (hT _ tw_14_18) (hT _ tw_14_19) (hT _ tw_14_20) (hT _ tw_14_21) (Nat.le_of_ble_eq_true rfl) (Nat.le_of_ble_eq_true rfl) (Nat.zero_le _) (Nat.zero_le _) dX1_meetInMidAir_16 ?_
  obtain ⟨hi_30, hf⟩ := grd_inv hf
  refine xiast C hE hH 6 rfl hi_30 (fun q : M2 => wL g ad q) (st2 L 6 (upd (L 6) x1.toNatClampNeg (if (L 6 x1.toNatClampNeg) + (1 : Int32) < (9999 : Int32) then (L 6 x1.toNatClampNeg) + (1 : Int32) else (9999 : Int32)))) rfl dX1_meetInMidAir_19 (fun L_31 eL_31 H locs hH => ?_)
  have hf := letb_at hf L_31 eL_31
  refine lv_aload_n hx hb dX1_meetInMidAir_20 rfl (lv_at hl 0 rfl) ?_
  refine gf_RX1_49 C hE hH 0 rfl rfl dX1_meetInMidAir_21 ?_
  refine lv_iload_n hx hb dX1_meetInMidAir_24 rfl (lv_at hl 2 rfl) ?_
  refine lv_sipush (v := 9999) hx hb dX1_meetInMidAir_25 (by decide) ?_
  refine lv_aload_n hx hb dX1_meetInMidAir_28 rfl (lv_at hl 0 rfl) ?_
  refine gf_RX1_49 C hE hH 0 rfl rfl dX1_meetInMidAir_29 ?_
  refine lv_iload_n hx hb dX1_meetInMidAir_32 rfl (lv_at hl 2 rfl) ?_
  obtain ⟨hi_32, hf⟩ := grd_inv hf
  refine xiald C hE hH 6 rfl hi_32 dX1_meetInMidAir_33 ?_
  refine lv_iconst (v := 1) hx hb dX1_meetInMidAir_34 (by decide) ?_
  refine lv_iadd hx hb dX1_meetInMidAir_35 ?_
  refine va_mmin hx hb (hml.trans hl.1.symm) hown (hT _ tw_14_18) (hT _ tw_14_19) (hT _ tw_14_20) (hT _ tw_14_21) (Nat.le_of_ble_eq_true rfl) (Nat.le_of_ble_eq_true rfl) (Nat.zero_le _) (Nat.zero_le _) dX1_meetInMidAir_36 ?_
  obtain ⟨hi_33, hf⟩ := grd_inv hf
  refine xiast C hE hH 6 rfl hi_33 (fun q : M2 => wL g ad q) (st2 L_31 6 (upd (L_31 6) x2.toNatClampNeg (if (L_31 6 x2.toNatClampNeg) + (1 : Int32) < (9999 : Int32) then (L_31 6 x2.toNatClampNeg) + (1 : Int32) else (9999 : Int32)))) rfl dX1_meetInMidAir_39 (fun L_34 eL_34 H locs hH => ?_)
  have hf := letb_at hf L_34 eL_34
  refine lv_aload_n hx hb dX1_meetInMidAir_40 rfl (lv_at hl 0 rfl) ?_
  refine gf_RX1_46 C hE hH 0 rfl rfl dX1_meetInMidAir_41 ?_
  refine lv_iload_n hx hb dX1_meetInMidAir_44 rfl (lv_at hl 1 rfl) ?_
  obtain ⟨hi_35, hf⟩ := grd_inv hf
  refine xiald C hE hH 5 rfl hi_35 dX1_meetInMidAir_45 ?_
  refine lv_topi (fun v_36 ev_36 => ?_)
  have hf := letb_at hf v_36 ev_36
  refine lv_istore (lv' := [(4, .int v_36), (0, .ref (ad 0)), (1, .int x1), (2, .int x2), (3, .int x3)]) hx hb dX1_meetInMidAir_46 hl (by decide) rfl (fun ls hl => ?_)
  refine lv_aload_n hx hb dX1_meetInMidAir_48 rfl (lv_at hl 1 rfl) ?_
  refine gf_RX1_46 C hE hH 0 rfl rfl dX1_meetInMidAir_49 ?_
  refine lv_iload_n hx hb dX1_meetInMidAir_52 rfl (lv_at hl 3 rfl) ?_
  obtain ⟨hi_37, hf⟩ := grd_inv hf
  refine xiald C hE hH 5 rfl hi_37 dX1_meetInMidAir_53 ?_
  refine lv_topi (fun v_38 ev_38 => ?_)
  have hf := letb_at hf v_38 ev_38
  refine lv_istore (lv' := [(5, .int v_38), (4, .int v_36), (0, .ref (ad 0)), (1, .int x1), (2, .int x2), (3, .int x3)]) hx hb dX1_meetInMidAir_54 hl (by decide) rfl (fun ls hl => ?_)
  refine lv_aload_n hx hb dX1_meetInMidAir_56 rfl (lv_at hl 2 rfl) ?_
  refine gf_RX1_46 C hE hH 0 rfl rfl dX1_meetInMidAir_57 ?_
  refine lv_iload_n hx hb dX1_meetInMidAir_60 rfl (lv_at hl 3 rfl) ?_
  refine lv_dup2_11 hx hb dX1_meetInMidAir_61 rfl rfl ?_
  obtain ⟨hi_39, hf⟩ := grd_inv hf
  refine xiald C hE hH 5 rfl hi_39 dX1_meetInMidAir_62 ?_
  refine lv_iload hx hb dX1_meetInMidAir_63 (lv_at hl 0 rfl) ?_
  refine lv_iload hx hb dX1_meetInMidAir_65 (lv_at hl 1 rfl) ?_
  refine lv_iconst (v := (-1)) hx hb dX1_meetInMidAir_67 (by decide) ?_
  refine lv_ixor hx hb dX1_meetInMidAir_68 ?_
  refine lv_iand hx hb dX1_meetInMidAir_69 ?_
  refine lv_aload_n hx hb dX1_meetInMidAir_70 rfl (lv_at hl 2 rfl) ?_
  refine gf_RX1_37 C hE hH 0 rfl rfl dX1_meetInMidAir_71 ?_
  refine lv_iload_n hx hb dX1_meetInMidAir_74 rfl (lv_at hl 4 rfl) ?_
  obtain ⟨hi_40, hf⟩ := grd_inv hf
  refine xiald C hE hH 2 rfl hi_40 dX1_meetInMidAir_75 ?_
  refine lv_iload_n hx hb dX1_meetInMidAir_76 rfl (lv_at hl 5 rfl) ?_
  obtain ⟨r_41, hc_42, hf⟩ := bind_inv hf
  refine aftPI (runS C hE hA hH [] rfl rfl (kX0_tells l g ad _ (L_34 2 x2.toNatClampNeg) x3 r_41  hc_42) tw_15_20 tw_11_10 tw_9_20 tw_11_11 hdX0_tells rfl rfl ⟨Nat.le_of_ble_eq_true rfl, Nat.le_of_ble_eq_true rfl⟩ rfl hl.1 (rest := [.int (v_38 &&& (v_36 ^^^ (-1 : Int32))), .int (L_34 5 x1.toNatClampNeg), .int x1, .ref (ad 5)]) rfl (Nat.le_of_ble_eq_true rfl) dX1_meetInMidAir_77 ⟨Nat.zero_le _, Nat.zero_le _⟩) ?_
  obtain ⟨r_43, hc_44, hf⟩ := bind_inv hf
  refine aftPI (runS C hE hA hH [] rfl rfl (kX1_leastOf l g ad _ (v_38 &&& (v_36 ^^^ (-1 : Int32))) r_41 r_43  hc_44) tw_15_21 tw_15_22 tw_1_15 tw_15_23 hdX1_leastOf rfl rfl ⟨Nat.le_of_ble_eq_true rfl, Nat.le_of_ble_eq_true rfl⟩ rfl hl.1 (rest := [.int (L_34 5 x1.toNatClampNeg), .int x1, .ref (ad 5)]) rfl (Nat.le_of_ble_eq_true rfl) dX1_meetInMidAir_80 ⟨Nat.zero_le _, Nat.zero_le _⟩) ?_
  refine lv_ior hx hb dX1_meetInMidAir_83 ?_
  obtain ⟨hi_45, hf⟩ := grd_inv hf
  refine xiast C hE hH 5 rfl hi_45 (fun q : M2 => wL g ad q) (st2 L_34 5 (upd (L_34 5) x1.toNatClampNeg ((L_34 5 x1.toNatClampNeg) ||| r_43))) rfl dX1_meetInMidAir_84 (fun L_46 eL_46 H locs hH => ?_)
  have hf := letb_at hf L_46 eL_46
  refine lv_aload_n hx hb dX1_meetInMidAir_85 rfl (lv_at hl 2 rfl) ?_
  refine gf_RX1_46 C hE hH 0 rfl rfl dX1_meetInMidAir_86 ?_
  refine lv_iload_n hx hb dX1_meetInMidAir_89 rfl (lv_at hl 4 rfl) ?_
  refine lv_dup2_11 hx hb dX1_meetInMidAir_90 rfl rfl ?_
  obtain ⟨hi_47, hf⟩ := grd_inv hf
  refine xiald C hE hH 5 rfl hi_47 dX1_meetInMidAir_91 ?_
  refine lv_iload hx hb dX1_meetInMidAir_92 (lv_at hl 1 rfl) ?_
  refine lv_iload hx hb dX1_meetInMidAir_94 (lv_at hl 0 rfl) ?_
  refine lv_iconst (v := (-1)) hx hb dX1_meetInMidAir_96 (by decide) ?_
  refine lv_ixor hx hb dX1_meetInMidAir_97 ?_
  refine lv_iand hx hb dX1_meetInMidAir_98 ?_
  refine lv_aload_n hx hb dX1_meetInMidAir_99 rfl (lv_at hl 2 rfl) ?_
  refine gf_RX1_37 C hE hH 0 rfl rfl dX1_meetInMidAir_100 ?_
  refine lv_iload_n hx hb dX1_meetInMidAir_103 rfl (lv_at hl 3 rfl) ?_
  obtain ⟨hi_48, hf⟩ := grd_inv hf
  refine xiald C hE hH 2 rfl hi_48 dX1_meetInMidAir_104 ?_
  refine lv_iload_n hx hb dX1_meetInMidAir_105 rfl (lv_at hl 5 rfl) ?_
  obtain ⟨r_49, hc_50, hf⟩ := bind_inv hf
  refine aftPI (runS C hE hA hH [] rfl rfl (kX0_tells l g ad _ (L_46 2 x1.toNatClampNeg) x3 r_49  hc_50) tw_15_20 tw_11_10 tw_9_20 tw_11_11 hdX0_tells rfl rfl ⟨Nat.le_of_ble_eq_true rfl, Nat.le_of_ble_eq_true rfl⟩ rfl hl.1 (rest := [.int (v_36 &&& (v_38 ^^^ (-1 : Int32))), .int (L_46 5 x2.toNatClampNeg), .int x2, .ref (ad 5)]) rfl (Nat.le_of_ble_eq_true rfl) dX1_meetInMidAir_106 ⟨Nat.zero_le _, Nat.zero_le _⟩) ?_
  obtain ⟨r_51, hc_52, hf⟩ := bind_inv hf
  refine aftPI (runS C hE hA hH [] rfl rfl (kX1_leastOf l g ad _ (v_36 &&& (v_38 ^^^ (-1 : Int32))) r_49 r_51  hc_52) tw_15_21 tw_15_22 tw_1_15 tw_15_23 hdX1_leastOf rfl rfl ⟨Nat.le_of_ble_eq_true rfl, Nat.le_of_ble_eq_true rfl⟩ rfl hl.1 (rest := [.int (L_46 5 x2.toNatClampNeg), .int x2, .ref (ad 5)]) rfl (Nat.le_of_ble_eq_true rfl) dX1_meetInMidAir_109 ⟨Nat.zero_le _, Nat.zero_le _⟩) ?_
  refine lv_ior hx hb dX1_meetInMidAir_112 ?_
  obtain ⟨hi_53, hf⟩ := grd_inv hf
  refine xiast C hE hH 5 rfl hi_53 (fun q : M2 => wL g ad q) (st2 L_46 5 (upd (L_46 5) x2.toNatClampNeg ((L_46 5 x2.toNatClampNeg) ||| r_51))) rfl dX1_meetInMidAir_113 (fun L_54 eL_54 H locs hH => ?_)
  have hf := letb_at hf L_54 eL_54
  refine lv_aload_n hx hb dX1_meetInMidAir_114 rfl (lv_at hl 2 rfl) ?_
  refine lv_iload_n hx hb dX1_meetInMidAir_115 rfl (lv_at hl 3 rfl) ?_
  refine pf_RX1_52 C hE hH 0 rfl rfl rfl (Nat.le_of_ble_eq_true rfl) (fun q : M2 => wL g ad q) (st2 L_54 0 (upd (L_54 0) 7 x1)) rfl dX1_meetInMidAir_116 (fun L_55 eL_55 H locs hH => ?_)
  have hf := letb_at hf L_55 eL_55
  refine lv_aload_n hx hb dX1_meetInMidAir_119 rfl (lv_at hl 2 rfl) ?_
  refine lv_iload_n hx hb dX1_meetInMidAir_120 rfl (lv_at hl 4 rfl) ?_
  refine pf_RX1_55 C hE hH 0 rfl rfl rfl (Nat.le_of_ble_eq_true rfl) (fun q : M2 => wL g ad q) (st2 L_55 0 (upd (L_55 0) 8 x2)) rfl dX1_meetInMidAir_121 (fun L_56 eL_56 H locs hH => ?_)
  have hf := letb_at hf L_56 eL_56
  have h1 := Option.some.inj hf
  subst h1
  exact retV C hH dX1_meetInMidAir_124
def fX1_relieve_c96  (L : M2) : Option (M2) := some L
def fX1_relieve_c21  (y1 : Int32) (y2 : Int32) (z0 : Int32) (L : M2) : Option (M2) := grd (inb y1 8) (letb (st2 L 3 (upd (L 3) y1.toNatClampNeg (1 : Int32))) (fun L_22 : M2 => grd (inb y1 8) (letb (st2 L_22 4 (upd (L_22 4) y1.toNatClampNeg ((L_22 0 0) + (1 : Int32)))) (fun L_24 : M2 => grd (inb y1 8) ((fX0_brings (L_24 2 y1.toNatClampNeg) y2).bind (fun (r_26 : Int32) => letb (st2 L_24 0 (upd (L_24 0) 2 (if (L_24 0 2) + r_26 < (9999 : Int32) then (L_24 0 2) + r_26 else (9999 : Int32)))) (fun L_28 : M2 => (if z0 < 0 then fX1_relieve_c96  L_28 else grd (inb z0 8) (letb (st2 L_28 3 (upd (L_28 3) z0.toNatClampNeg (0 : Int32))) (fun L_31 : M2 => grd (inb z0 8) (letb (st2 L_31 4 (upd (L_31 4) z0.toNatClampNeg ((L_31 0 0) + (1 : Int32)))) (fun L_33 : M2 => (fX1_meetInMidAir y1 z0 y2 L_33).bind (fun (L_34 : M2) => fX1_relieve_c96  L_34)))))))))))))
def fX1_relieve (x1 : Int32) (x2 : Int32) (L : M2) : Option (M2) := (fX1_countStanding (1 : Int32) L).bind (fun (r_36 : Int32) => (if r_36 < (L 0 3) then fX1_relieve_c21  x1 x2 (-1 : Int32) L else (fX1_longestStanding (1 : Int32) L).bind (fun (r_39 : Int32) => fX1_relieve_c21  x1 x2 r_39 L)))
def rmX1_relieve : Room := { frames := 2, cells := 0, slots := 0, locals := 49 }
theorem hdX1_relieve : yX1_relieve.cls = yX1_relieve.cls ∧ yX1_relieve.cls ≠ "java/lang/invoke/MethodHandle" ∧ yX1_relieve.cls ≠ "java/lang/invoke/VarHandle" ∧ (parseMethodDescriptor yX1_relieve.desc).map (fun d => d.parameters.length) = some 2 := by decide +kernel
set_option maxHeartbeats 4000000 in
set_option maxRecDepth 100000 in
theorem kX1_relieve (l : Launch) (g : Gl) (ad : Nat → Nat) (sz : Nat) (L : M2) (x1 : Int32) (x2 : Int32) (L' : M2)  (hf : fX1_relieve x1 x2 L = some L') : MetV l yX1_relieve (Cond.code yX1_relieve cX1_relieve 4 none :: wsL_law) rmX1_relieve [.ref (ad 0), .int x1, .int x2] g (wL g ad L) sz (wL g ad L') := by
  refine openV (by decide +kernel) (Nat.le_of_ble_eq_true rfl) ?_
  intro p e s m args below meth c A C hE hA hH ls hl
  have hl : lv_has ls 4 [(0, .ref (ad 0)), (1, .int x1), (2, .int x2)] := hl
  have C : Cx p s m args meth c cX1_relieve 4 none RX1 := C
  obtain ⟨hx, hb, hml, hown, hT, hr, hlk⟩ := id C
  rw [fX1_relieve] at hf
  have j_21 : ∀ (y1 : Int32) (y2 : Int32) (z0 : Int32) (L : M2) (H : Heap) (locs : List Loc) (ls : Array Slot), fX1_relieve_c21  y1 y2 z0 L = some L' → Hp g A s H locs (wL g ad L) → lv_has ls 4 [(0, .ref (ad 0)), (1, .int y1), (2, .int y2)] → W p l e rmX1_relieve s m args below meth c H locs 0 0 (QV g A below args s (wL g ad L')) (F0 m 21 ls [.int z0]) := by
    intro y1 y2 z0 L H locs  ls hf hH hl
    rw [fX1_relieve_c21] at hf
    have j_96 : ∀ (L : M2) (H : Heap) (locs : List Loc) (ls : Array Slot), fX1_relieve_c96  L = some L' → Hp g A s H locs (wL g ad L) → lv_has ls 4 [] → W p l e rmX1_relieve s m args below meth c H locs 0 0 (QV g A below args s (wL g ad L')) (F0 m 96 ls []) := by
      intro L H locs  ls hf hH hl
      rw [fX1_relieve_c96] at hf
      have h1 := Option.some.inj hf
      subst h1
      exact retV C hH dX1_relieve_96
    refine lv_istore_n (lv' := [(3, .int z0), (0, .ref (ad 0)), (1, .int y1), (2, .int y2)]) hx hb dX1_relieve_21 rfl hl (by decide) rfl (fun ls hl => ?_)
    refine lv_aload_n hx hb dX1_relieve_22 rfl (lv_at hl 1 rfl) ?_
    refine gf_RX1_40 C hE hH 0 rfl rfl dX1_relieve_23 ?_
    refine lv_iload_n hx hb dX1_relieve_26 rfl (lv_at hl 2 rfl) ?_
    refine lv_iconst (v := 1) hx hb dX1_relieve_27 (by decide) ?_
    obtain ⟨hi_21, hf⟩ := grd_inv hf
    refine xiast C hE hH 3 rfl hi_21 (fun q : M2 => wL g ad q) (st2 L 3 (upd (L 3) y1.toNatClampNeg (1 : Int32))) rfl dX1_relieve_28 (fun L_22 eL_22 H locs hH => ?_)
    have hf := letb_at hf L_22 eL_22
    refine lv_aload_n hx hb dX1_relieve_29 rfl (lv_at hl 1 rfl) ?_
    refine gf_RX1_43 C hE hH 0 rfl rfl dX1_relieve_30 ?_
    refine lv_iload_n hx hb dX1_relieve_33 rfl (lv_at hl 2 rfl) ?_
    refine lv_aload_n hx hb dX1_relieve_34 rfl (lv_at hl 1 rfl) ?_
    refine gf_RX1_15 C hE hH 0 rfl rfl dX1_relieve_35 ?_
    refine lv_iconst (v := 1) hx hb dX1_relieve_38 (by decide) ?_
    refine lv_iadd hx hb dX1_relieve_39 ?_
    obtain ⟨hi_23, hf⟩ := grd_inv hf
    refine xiast C hE hH 4 rfl hi_23 (fun q : M2 => wL g ad q) (st2 L_22 4 (upd (L_22 4) y1.toNatClampNeg ((L_22 0 0) + (1 : Int32)))) rfl dX1_relieve_40 (fun L_24 eL_24 H locs hH => ?_)
    have hf := letb_at hf L_24 eL_24
    refine lv_aload_n hx hb dX1_relieve_41 rfl (lv_at hl 1 rfl) ?_
    refine lv_sipush (v := 9999) hx hb dX1_relieve_42 (by decide) ?_
    refine lv_aload_n hx hb dX1_relieve_45 rfl (lv_at hl 1 rfl) ?_
    refine gf_RX1_25 C hE hH 0 rfl rfl dX1_relieve_46 ?_
    refine lv_aload_n hx hb dX1_relieve_49 rfl (lv_at hl 1 rfl) ?_
    refine gf_RX1_37 C hE hH 0 rfl rfl dX1_relieve_50 ?_
    refine lv_iload_n hx hb dX1_relieve_53 rfl (lv_at hl 2 rfl) ?_
    obtain ⟨hi_25, hf⟩ := grd_inv hf
    refine xiald C hE hH 2 rfl hi_25 dX1_relieve_54 ?_
    refine lv_iload_n hx hb dX1_relieve_55 rfl (lv_at hl 3 rfl) ?_
    obtain ⟨r_26, hc_27, hf⟩ := bind_inv hf
    refine aftPI (runS C hE hA hH [] rfl rfl (kX0_brings l g ad _ (L_24 2 y1.toNatClampNeg) y2 r_26  hc_27) tw_15_15 tw_11_7 tw_9_20 tw_11_8 hdX0_brings rfl rfl ⟨Nat.le_of_ble_eq_true rfl, Nat.le_of_ble_eq_true rfl⟩ rfl hl.1 (rest := [.int (L_24 0 2), .int (9999 : Int32), .ref (ad 0)]) rfl (Nat.le_of_ble_eq_true rfl) dX1_relieve_56 ⟨Nat.zero_le _, Nat.zero_le _⟩) ?_
    refine lv_iadd hx hb dX1_relieve_59 ?_
    refine va_mmin hx hb (hml.trans hl.1.symm) hown (hT _ tw_14_18) (hT _ tw_14_19) (hT _ tw_14_20) (hT _ tw_14_21) (Nat.le_of_ble_eq_true rfl) (Nat.le_of_ble_eq_true rfl) (Nat.zero_le _) (Nat.zero_le _) dX1_relieve_60 ?_
    refine pf_RX1_25 C hE hH 0 rfl rfl rfl (Nat.le_of_ble_eq_true rfl) (fun q : M2 => wL g ad q) (st2 L_24 0 (upd (L_24 0) 2 (if (L_24 0 2) + r_26 < (9999 : Int32) then (L_24 0 2) + r_26 else (9999 : Int32)))) rfl dX1_relieve_63 (fun L_28 eL_28 H locs hH => ?_)
    have hf := letb_at hf L_28 eL_28
    refine lv_iload_n hx hb dX1_relieve_66 rfl (lv_at hl 0 rfl) ?_
    refine lv_if_lt (tgt := 96) hx hb dX1_relieve_67 (by decide) (fun c_29 => ?_) (fun c_29 => ?_)
    · have hf := if_p hf c_29
      exact j_96 L_28 _ _ ls hf hH (lv_sub hl [] rfl)
    · have hf := if_n hf c_29
      refine lv_aload_n hx hb dX1_relieve_70 rfl (lv_at hl 1 rfl) ?_
      refine gf_RX1_40 C hE hH 0 rfl rfl dX1_relieve_71 ?_
      refine lv_iload_n hx hb dX1_relieve_74 rfl (lv_at hl 0 rfl) ?_
      refine lv_iconst (v := 0) hx hb dX1_relieve_75 (by decide) ?_
      obtain ⟨hi_30, hf⟩ := grd_inv hf
      refine xiast C hE hH 3 rfl hi_30 (fun q : M2 => wL g ad q) (st2 L_28 3 (upd (L_28 3) z0.toNatClampNeg (0 : Int32))) rfl dX1_relieve_76 (fun L_31 eL_31 H locs hH => ?_)
      have hf := letb_at hf L_31 eL_31
      refine lv_aload_n hx hb dX1_relieve_77 rfl (lv_at hl 1 rfl) ?_
      refine gf_RX1_43 C hE hH 0 rfl rfl dX1_relieve_78 ?_
      refine lv_iload_n hx hb dX1_relieve_81 rfl (lv_at hl 0 rfl) ?_
      refine lv_aload_n hx hb dX1_relieve_82 rfl (lv_at hl 1 rfl) ?_
      refine gf_RX1_15 C hE hH 0 rfl rfl dX1_relieve_83 ?_
      refine lv_iconst (v := 1) hx hb dX1_relieve_86 (by decide) ?_
      refine lv_iadd hx hb dX1_relieve_87 ?_
      obtain ⟨hi_32, hf⟩ := grd_inv hf
      refine xiast C hE hH 4 rfl hi_32 (fun q : M2 => wL g ad q) (st2 L_31 4 (upd (L_31 4) z0.toNatClampNeg ((L_31 0 0) + (1 : Int32)))) rfl dX1_relieve_88 (fun L_33 eL_33 H locs hH => ?_)
      have hf := letb_at hf L_33 eL_33
      refine lv_aload_n hx hb dX1_relieve_89 rfl (lv_at hl 1 rfl) ?_
      refine lv_iload_n hx hb dX1_relieve_90 rfl (lv_at hl 2 rfl) ?_
      refine lv_iload_n hx hb dX1_relieve_91 rfl (lv_at hl 0 rfl) ?_
      refine lv_iload_n hx hb dX1_relieve_92 rfl (lv_at hl 3 rfl) ?_
      obtain ⟨L_34, hc_35, hf⟩ := bind_inv hf
      refine aftV (runV C hE hA hH [0, 1, 2, 3, 4, 5, 6] nC_L_L_0_6 (sC_L_L_0_6 g ad L_33) (kX1_meetInMidAir l g ad _ L_33 y1 z0 y2 L_34  hc_35) tw_15_16 tw_15_17 tw_15_18 tw_1_15 tw_15_19 hdX1_meetInMidAir 0 rfl rfl rfl rfl ⟨Nat.le_of_ble_eq_true rfl, Nat.le_of_ble_eq_true rfl⟩ rfl hl.1 (rest := []) rfl (Nat.le_of_ble_eq_true rfl) dX1_relieve_93 ⟨Nat.zero_le _, Nat.zero_le _⟩) hA hH [0, 1, 2, 3, 4, 5, 6] [] (sC_L_L_0_6 g ad L_33) (sR_L_L_0_6 g ad L_33) nR_L_L_0_6 dj_L_L_0_6 [0, 1, 2, 3, 4, 5, 6] nP_L_L_0_6 (sP_L_L_0_6 g ad L_33 L_34) (fun H locs hH => ?_)
      exact j_96 L_34 _ _ ls hf hH (lv_sub hl [] rfl)
  refine lv_aload_n hx hb dX1_relieve_0 rfl (lv_at hl 0 rfl) ?_
  refine lv_iconst (v := 1) hx hb dX1_relieve_1 (by decide) ?_
  obtain ⟨r_36, hc_37, hf⟩ := bind_inv hf
  refine aftPI (runV C hE hA hH [0, 1, 2, 3, 4, 5, 6] nC_L_L_0_6 (sC_L_L_0_6 g ad L) (kX1_countStanding l g ad _ L (1 : Int32) r_36  hc_37) tw_15_11 tw_15_12 tw_15_13 tw_1_15 tw_15_14 hdX1_countStanding 0 rfl rfl rfl rfl ⟨Nat.le_of_ble_eq_true rfl, Nat.le_of_ble_eq_true rfl⟩ rfl hl.1 (rest := []) rfl (Nat.le_of_ble_eq_true rfl) dX1_relieve_2 ⟨Nat.zero_le _, Nat.zero_le _⟩) ?_
  refine lv_aload_n hx hb dX1_relieve_5 rfl (lv_at hl 0 rfl) ?_
  refine gf_RX1_28 C hE hH 0 rfl rfl dX1_relieve_6 ?_
  refine lv_icmp_lt (tgt := 20) hx hb dX1_relieve_9 (by decide) (fun c_38 => ?_) (fun c_38 => ?_)
  · have hf := if_p hf c_38
    refine lv_iconst (v := (-1)) hx hb dX1_relieve_20 (by decide) ?_
    exact j_21 x1 x2 (-1 : Int32) L _ _ ls hf hH (lv_sub hl [0, 1, 2] rfl)
  · have hf := if_n hf c_38
    refine lv_aload_n hx hb dX1_relieve_12 rfl (lv_at hl 0 rfl) ?_
    refine lv_iconst (v := 1) hx hb dX1_relieve_13 (by decide) ?_
    obtain ⟨r_39, hc_40, hf⟩ := bind_inv hf
    refine aftPI (runV C hE hA hH [0, 1, 2, 3, 4, 5, 6] nC_L_L_0_6 (sC_L_L_0_6 g ad L) (kX1_longestStanding l g ad _ L (1 : Int32) r_39  hc_40) tw_15_3 tw_15_4 tw_15_5 tw_1_15 tw_15_6 hdX1_longestStanding 0 rfl rfl rfl rfl ⟨Nat.le_of_ble_eq_true rfl, Nat.le_of_ble_eq_true rfl⟩ rfl hl.1 (rest := []) rfl (Nat.le_of_ble_eq_true rfl) dX1_relieve_14 ⟨Nat.zero_le _, Nat.zero_le _⟩) ?_
    refine lv_goto (tgt := 21) hx hb dX1_relieve_17 (by decide) ?_
    exact j_21 x1 x2 r_39 L _ _ ls hf hH (lv_sub hl [0, 1, 2] rfl)
def fX1_blowGale (x1 : Int32) (L : M2) : Option (M2) := letb (st2 L 0 (upd (L 0) 4 ((L 0 4) + (1 : Int32)))) (fun L_10 : M2 => (if (3 : Int32) ≤ (L_10 0 4) then (fX1_longestStanding (0 : Int32) L_10).bind (fun (r_12 : Int32) => (if 0 ≤ r_12 then letb (st2 L_10 0 (upd (L_10 0) 4 (0 : Int32))) (fun L_15 : M2 => (fX1_relieve r_12 x1 L_15).bind (fun (L_16 : M2) => some L_16)) else letb (st2 L_10 0 (upd (L_10 0) 4 (2 : Int32))) (fun L_18 : M2 => some L_18))) else some L_10))
def rmX1_blowGale : Room := { frames := 3, cells := 0, slots := 0, locals := 72 }
theorem hdX1_blowGale : yX1_blowGale.cls = yX1_blowGale.cls ∧ yX1_blowGale.cls ≠ "java/lang/invoke/MethodHandle" ∧ yX1_blowGale.cls ≠ "java/lang/invoke/VarHandle" ∧ (parseMethodDescriptor yX1_blowGale.desc).map (fun d => d.parameters.length) = some 1 := by decide +kernel
set_option maxHeartbeats 4000000 in
set_option maxRecDepth 100000 in
theorem kX1_blowGale (l : Launch) (g : Gl) (ad : Nat → Nat) (sz : Nat) (L : M2) (x1 : Int32) (L' : M2)  (hf : fX1_blowGale x1 L = some L') : MetV l yX1_blowGale (Cond.code yX1_blowGale cX1_blowGale 3 none :: wsL_law) rmX1_blowGale [.ref (ad 0), .int x1] g (wL g ad L) sz (wL g ad L') := by
  refine openV (by decide +kernel) (Nat.le_of_ble_eq_true rfl) ?_
  intro p e s m args below meth c A C hE hA hH ls hl
  have hl : lv_has ls 3 [(0, .ref (ad 0)), (1, .int x1)] := hl
  have C : Cx p s m args meth c cX1_blowGale 3 none RX1 := C
  obtain ⟨hx, hb, hml, hown, hT, hr, hlk⟩ := id C
  rw [fX1_blowGale] at hf
  refine lv_aload_n hx hb dX1_blowGale_0 rfl (lv_at hl 0 rfl) ?_
  refine lv_dup hx hb dX1_blowGale_1 rfl ?_
  refine gf_RX1_22 C hE hH 0 rfl rfl dX1_blowGale_2 ?_
  refine lv_iconst (v := 1) hx hb dX1_blowGale_5 (by decide) ?_
  refine lv_iadd hx hb dX1_blowGale_6 ?_
  refine pf_RX1_22 C hE hH 0 rfl rfl rfl (Nat.le_of_ble_eq_true rfl) (fun q : M2 => wL g ad q) (st2 L 0 (upd (L 0) 4 ((L 0 4) + (1 : Int32)))) rfl dX1_blowGale_7 (fun L_10 eL_10 H locs hH => ?_)
  have hf := letb_at hf L_10 eL_10
  refine lv_aload_n hx hb dX1_blowGale_10 rfl (lv_at hl 0 rfl) ?_
  refine gf_RX1_22 C hE hH 0 rfl rfl dX1_blowGale_11 ?_
  refine lv_iconst (v := 3) hx hb dX1_blowGale_14 (by decide) ?_
  refine lv_icmp_ge (tgt := 19) hx hb dX1_blowGale_15 (by decide) (fun c_11 => ?_) (fun c_11 => ?_)
  · have hf := if_p hf c_11
    refine lv_aload_n hx hb dX1_blowGale_19 rfl (lv_at hl 0 rfl) ?_
    refine lv_iconst (v := 0) hx hb dX1_blowGale_20 (by decide) ?_
    obtain ⟨r_12, hc_13, hf⟩ := bind_inv hf
    refine aftPI (runV C hE hA hH [0, 1, 2, 3, 4, 5, 6] nC_L_L_0_6 (sC_L_L_0_6 g ad L_10) (kX1_longestStanding l g ad _ L_10 (0 : Int32) r_12  hc_13) tw_15_3 tw_15_4 tw_15_5 tw_1_15 tw_15_6 hdX1_longestStanding 0 rfl rfl rfl rfl ⟨Nat.le_of_ble_eq_true rfl, Nat.le_of_ble_eq_true rfl⟩ rfl hl.1 (rest := []) rfl (Nat.le_of_ble_eq_true rfl) dX1_blowGale_21 ⟨Nat.zero_le _, Nat.zero_le _⟩) ?_
    refine lv_istore_n (lv' := [(2, .int r_12), (0, .ref (ad 0)), (1, .int x1)]) hx hb dX1_blowGale_24 rfl hl (by decide) rfl (fun ls hl => ?_)
    refine lv_iload_n hx hb dX1_blowGale_25 rfl (lv_at hl 0 rfl) ?_
    refine lv_if_ge (tgt := 35) hx hb dX1_blowGale_26 (by decide) (fun c_14 => ?_) (fun c_14 => ?_)
    · have hf := if_p hf c_14
      refine lv_aload_n hx hb dX1_blowGale_35 rfl (lv_at hl 1 rfl) ?_
      refine lv_iconst (v := 0) hx hb dX1_blowGale_36 (by decide) ?_
      refine pf_RX1_22 C hE hH 0 rfl rfl rfl (Nat.le_of_ble_eq_true rfl) (fun q : M2 => wL g ad q) (st2 L_10 0 (upd (L_10 0) 4 (0 : Int32))) rfl dX1_blowGale_37 (fun L_15 eL_15 H locs hH => ?_)
      have hf := letb_at hf L_15 eL_15
      refine lv_aload_n hx hb dX1_blowGale_40 rfl (lv_at hl 1 rfl) ?_
      refine lv_iload_n hx hb dX1_blowGale_41 rfl (lv_at hl 0 rfl) ?_
      refine lv_iload_n hx hb dX1_blowGale_42 rfl (lv_at hl 2 rfl) ?_
      obtain ⟨L_16, hc_17, hf⟩ := bind_inv hf
      refine aftV (runV C hE hA hH [0, 1, 2, 3, 4, 5, 6] nC_L_L_0_6 (sC_L_L_0_6 g ad L_15) (kX1_relieve l g ad _ L_15 r_12 x1 L_16  hc_17) tw_15_7 tw_15_8 tw_15_9 tw_1_15 tw_15_10 hdX1_relieve 0 rfl rfl rfl rfl ⟨Nat.le_of_ble_eq_true rfl, Nat.le_of_ble_eq_true rfl⟩ rfl hl.1 (rest := []) rfl (Nat.le_of_ble_eq_true rfl) dX1_blowGale_43 ⟨Nat.zero_le _, Nat.zero_le _⟩) hA hH [0, 1, 2, 3, 4, 5, 6] [] (sC_L_L_0_6 g ad L_15) (sR_L_L_0_6 g ad L_15) nR_L_L_0_6 dj_L_L_0_6 [0, 1, 2, 3, 4, 5, 6] nP_L_L_0_6 (sP_L_L_0_6 g ad L_15 L_16) (fun H locs hH => ?_)
      have h1 := Option.some.inj hf
      subst h1
      exact retV C hH dX1_blowGale_46
    · have hf := if_n hf c_14
      refine lv_aload_n hx hb dX1_blowGale_29 rfl (lv_at hl 1 rfl) ?_
      refine lv_iconst (v := 2) hx hb dX1_blowGale_30 (by decide) ?_
      refine pf_RX1_22 C hE hH 0 rfl rfl rfl (Nat.le_of_ble_eq_true rfl) (fun q : M2 => wL g ad q) (st2 L_10 0 (upd (L_10 0) 4 (2 : Int32))) rfl dX1_blowGale_31 (fun L_18 eL_18 H locs hH => ?_)
      have hf := letb_at hf L_18 eL_18
      have h1 := Option.some.inj hf
      subst h1
      exact retV C hH dX1_blowGale_34
  · have hf := if_n hf c_11
    have h1 := Option.some.inj hf
    subst h1
    exact retV C hH dX1_blowGale_18
def fX1_passDay_c36  (L : M2) : Option (M2) := letb (st2 L 0 (upd (L 0) 0 ((L 0 0) + (1 : Int32)))) (fun L_13 : M2 => some L_13)
def fX1_passDay (L : M2) : Option (M2) := letb (st2 L 0 (upd (L 0) 7 (-1 : Int32))) (fun L_14 : M2 => letb (st2 L_14 0 (upd (L_14 0) 8 (-1 : Int32))) (fun L_15 : M2 => (fX1_usesTogether L_15).bind (fun (r_16 : Int32) => (fX1_burnOil r_16 L_15).bind (fun (L_18 : M2) => (fX1_secondsOn (L_18 0 0) L_18).bind (fun (r_20 : Int32) => (if r_20 ≤ 0 then fX1_passDay_c36  L_18 else (fX1_blowGale r_20 L_18).bind (fun (L_23 : M2) => fX1_passDay_c36  L_23)))))))
def rmX1_passDay : Room := { frames := 4, cells := 0, slots := 0, locals := 94 }
theorem hdX1_passDay : yX1_passDay.cls = yX1_passDay.cls ∧ yX1_passDay.cls ≠ "java/lang/invoke/MethodHandle" ∧ yX1_passDay.cls ≠ "java/lang/invoke/VarHandle" ∧ (parseMethodDescriptor yX1_passDay.desc).map (fun d => d.parameters.length) = some 0 := by decide +kernel
set_option maxHeartbeats 4000000 in
set_option maxRecDepth 100000 in
theorem kX1_passDay (l : Launch) (g : Gl) (ad : Nat → Nat) (sz : Nat) (L : M2)  (L' : M2)  (hf : fX1_passDay L = some L') : MetV l yX1_passDay (Cond.code yX1_passDay cX1_passDay 2 none :: wsL_law) rmX1_passDay [.ref (ad 0)] g (wL g ad L) sz (wL g ad L') := by
  refine openV (by decide +kernel) (Nat.le_of_ble_eq_true rfl) ?_
  intro p e s m args below meth c A C hE hA hH ls hl
  have hl : lv_has ls 2 [(0, .ref (ad 0))] := hl
  have C : Cx p s m args meth c cX1_passDay 2 none RX1 := C
  obtain ⟨hx, hb, hml, hown, hT, hr, hlk⟩ := id C
  rw [fX1_passDay] at hf
  have j_36 : ∀ (L : M2) (H : Heap) (locs : List Loc) (ls : Array Slot), fX1_passDay_c36  L = some L' → Hp g A s H locs (wL g ad L) → lv_has ls 2 [(0, .ref (ad 0))] → W p l e rmX1_passDay s m args below meth c H locs 0 0 (QV g A below args s (wL g ad L')) (F0 m 36 ls []) := by
    intro L H locs  ls hf hH hl
    rw [fX1_passDay_c36] at hf
    refine lv_aload_n hx hb dX1_passDay_36 rfl (lv_at hl 0 rfl) ?_
    refine lv_dup hx hb dX1_passDay_37 rfl ?_
    refine gf_RX1_15 C hE hH 0 rfl rfl dX1_passDay_38 ?_
    refine lv_iconst (v := 1) hx hb dX1_passDay_41 (by decide) ?_
    refine lv_iadd hx hb dX1_passDay_42 ?_
    refine pf_RX1_15 C hE hH 0 rfl rfl rfl (Nat.le_of_ble_eq_true rfl) (fun q : M2 => wL g ad q) (st2 L 0 (upd (L 0) 0 ((L 0 0) + (1 : Int32)))) rfl dX1_passDay_43 (fun L_13 eL_13 H locs hH => ?_)
    have hf := letb_at hf L_13 eL_13
    have h1 := Option.some.inj hf
    subst h1
    exact retV C hH dX1_passDay_46
  refine lv_aload_n hx hb dX1_passDay_0 rfl (lv_at hl 0 rfl) ?_
  refine lv_iconst (v := (-1)) hx hb dX1_passDay_1 (by decide) ?_
  refine pf_RX1_52 C hE hH 0 rfl rfl rfl (Nat.le_of_ble_eq_true rfl) (fun q : M2 => wL g ad q) (st2 L 0 (upd (L 0) 7 (-1 : Int32))) rfl dX1_passDay_2 (fun L_14 eL_14 H locs hH => ?_)
  have hf := letb_at hf L_14 eL_14
  refine lv_aload_n hx hb dX1_passDay_5 rfl (lv_at hl 0 rfl) ?_
  refine lv_iconst (v := (-1)) hx hb dX1_passDay_6 (by decide) ?_
  refine pf_RX1_55 C hE hH 0 rfl rfl rfl (Nat.le_of_ble_eq_true rfl) (fun q : M2 => wL g ad q) (st2 L_14 0 (upd (L_14 0) 8 (-1 : Int32))) rfl dX1_passDay_7 (fun L_15 eL_15 H locs hH => ?_)
  have hf := letb_at hf L_15 eL_15
  refine lv_aload_n hx hb dX1_passDay_10 rfl (lv_at hl 0 rfl) ?_
  refine lv_aload_n hx hb dX1_passDay_11 rfl (lv_at hl 0 rfl) ?_
  obtain ⟨r_16, hc_17, hf⟩ := bind_inv hf
  refine aftPI (runV C hE hA hH [0, 1, 2, 3, 4, 5, 6] nC_L_L_0_6 (sC_L_L_0_6 g ad L_15) (kX1_usesTogether l g ad _ L_15 r_16  hc_17) tw_14_9 tw_14_10 tw_14_11 tw_1_15 tw_14_12 hdX1_usesTogether 0 rfl rfl rfl rfl ⟨Nat.le_of_ble_eq_true rfl, Nat.le_of_ble_eq_true rfl⟩ rfl hl.1 (rest := [.ref (ad 0)]) rfl (Nat.le_of_ble_eq_true rfl) dX1_passDay_12 ⟨Nat.zero_le _, Nat.zero_le _⟩) ?_
  obtain ⟨L_18, hc_19, hf⟩ := bind_inv hf
  refine aftV (runV C hE hA hH [0, 1, 2, 3, 4, 5, 6] nC_L_L_0_6 (sC_L_L_0_6 g ad L_15) (kX1_burnOil l g ad _ L_15 r_16 L_18  hc_19) tw_14_14 tw_14_15 tw_14_16 tw_1_15 tw_14_17 hdX1_burnOil 0 rfl rfl rfl rfl ⟨Nat.le_of_ble_eq_true rfl, Nat.le_of_ble_eq_true rfl⟩ rfl hl.1 (rest := []) rfl (Nat.le_of_ble_eq_true rfl) dX1_passDay_15 ⟨Nat.zero_le _, Nat.zero_le _⟩) hA hH [0, 1, 2, 3, 4, 5, 6] [] (sC_L_L_0_6 g ad L_15) (sR_L_L_0_6 g ad L_15) nR_L_L_0_6 dj_L_L_0_6 [0, 1, 2, 3, 4, 5, 6] nP_L_L_0_6 (sP_L_L_0_6 g ad L_15 L_18) (fun H locs hH => ?_)
  refine lv_aload_n hx hb dX1_passDay_18 rfl (lv_at hl 0 rfl) ?_
  refine lv_aload_n hx hb dX1_passDay_19 rfl (lv_at hl 0 rfl) ?_
  refine gf_RX1_15 C hE hH 0 rfl rfl dX1_passDay_20 ?_
  obtain ⟨r_20, hc_21, hf⟩ := bind_inv hf
  refine aftPI (runV C hE hA hH [0, 1, 2, 3, 4, 5, 6] nC_L_L_0_6 (sC_L_L_0_6 g ad L_18) (kX1_secondsOn l g ad _ L_18 (L_18 0 0) r_20  hc_21) tw_14_22 tw_6_7 tw_6_8 tw_1_15 tw_6_9 hdX1_secondsOn 0 rfl rfl rfl rfl ⟨Nat.le_of_ble_eq_true rfl, Nat.le_of_ble_eq_true rfl⟩ rfl hl.1 (rest := []) rfl (Nat.le_of_ble_eq_true rfl) dX1_passDay_23 ⟨Nat.zero_le _, Nat.zero_le _⟩) ?_
  refine lv_istore_n (lv' := [(1, .int r_20), (0, .ref (ad 0))]) hx hb dX1_passDay_26 rfl hl (by decide) rfl (fun ls hl => ?_)
  refine lv_iload_n hx hb dX1_passDay_27 rfl (lv_at hl 0 rfl) ?_
  refine lv_if_le (tgt := 36) hx hb dX1_passDay_28 (by decide) (fun c_22 => ?_) (fun c_22 => ?_)
  · have hf := if_p hf c_22
    exact j_36 L_18 _ _ ls hf hH (lv_sub hl [1] rfl)
  · have hf := if_n hf c_22
    refine lv_aload_n hx hb dX1_passDay_31 rfl (lv_at hl 1 rfl) ?_
    refine lv_iload_n hx hb dX1_passDay_32 rfl (lv_at hl 0 rfl) ?_
    obtain ⟨L_23, hc_24, hf⟩ := bind_inv hf
    refine aftV (runV C hE hA hH [0, 1, 2, 3, 4, 5, 6] nC_L_L_0_6 (sC_L_L_0_6 g ad L_18) (kX1_blowGale l g ad _ L_18 r_20 L_23  hc_24) tw_14_23 tw_15_0 tw_15_1 tw_1_15 tw_15_2 hdX1_blowGale 0 rfl rfl rfl rfl ⟨Nat.le_of_ble_eq_true rfl, Nat.le_of_ble_eq_true rfl⟩ rfl hl.1 (rest := []) rfl (Nat.le_of_ble_eq_true rfl) dX1_passDay_33 ⟨Nat.zero_le _, Nat.zero_le _⟩) hA hH [0, 1, 2, 3, 4, 5, 6] [] (sC_L_L_0_6 g ad L_18) (sR_L_L_0_6 g ad L_18) nR_L_L_0_6 dj_L_L_0_6 [0, 1, 2, 3, 4, 5, 6] nP_L_L_0_6 (sP_L_L_0_6 g ad L_18 L_23) (fun H locs hH => ?_)
    exact j_36 L_23 _ _ ls hf hH (lv_sub hl [1] rfl)
def fX1_passDays_c17  (L : M2) : Option (M2) := some L
def fX1_passDays_c2  : Nat → Int32 → Int32 → M2 → Option (M2)
  | 0, _, _, _ => none
  | n + 1, y1, y2, L => (if y1 ≤ y2 then fX1_passDays_c17  L else (fX1_passDay L).bind (fun (L_6 : M2) => letb (y2 + (1 : Int32)) (fun v_8 : Int32 => fX1_passDays_c2 n y1 v_8 L_6)))
def fX1_passDays (x1 : Int32) (L : M2) : Option (M2) := fX1_passDays_c2  FU x1 (0 : Int32) L
def rmX1_passDays : Room := { frames := 5, cells := 0, slots := 0, locals := 115 }
theorem hdX1_passDays : yX1_passDays.cls = yX1_passDays.cls ∧ yX1_passDays.cls ≠ "java/lang/invoke/MethodHandle" ∧ yX1_passDays.cls ≠ "java/lang/invoke/VarHandle" ∧ (parseMethodDescriptor yX1_passDays.desc).map (fun d => d.parameters.length) = some 1 := by decide +kernel
set_option maxHeartbeats 4000000 in
set_option maxRecDepth 100000 in
theorem kX1_passDays (l : Launch) (g : Gl) (ad : Nat → Nat) (sz : Nat) (L : M2) (x1 : Int32) (L' : M2)  (hf : fX1_passDays x1 L = some L') : MetV l yX1_passDays (Cond.code yX1_passDays cX1_passDays 3 none :: wsL_law) rmX1_passDays [.ref (ad 0), .int x1] g (wL g ad L) sz (wL g ad L') := by
  refine openV (by decide +kernel) (Nat.le_of_ble_eq_true rfl) ?_
  intro p e s m args below meth c A C hE hA hH ls hl
  have hl : lv_has ls 3 [(0, .ref (ad 0)), (1, .int x1)] := hl
  have C : Cx p s m args meth c cX1_passDays 3 none RX1 := C
  obtain ⟨hx, hb, hml, hown, hT, hr, hlk⟩ := id C
  rw [fX1_passDays] at hf
  have lp_2 : ∀ (n_2 : Nat) (y1 : Int32) (y2 : Int32) (L : M2) (H : Heap) (locs : List Loc) (ls : Array Slot), fX1_passDays_c2  n_2 y1 y2 L = some L' → Hp g A s H locs (wL g ad L) → lv_has ls 3 [(0, .ref (ad 0)), (1, .int y1), (2, .int y2)] → W p l e rmX1_passDays s m args below meth c H locs 0 0 (QV g A below args s (wL g ad L')) (F0 m 2 ls []) := by
    intro n_2
    induction n_2 with
    | zero =>
      intro y1 y2 L H locs  ls hf hH hl
      rw [fX1_passDays_c2] at hf
      cases hf
    | succ n_2 ih_2 =>
      intro y1 y2 L H locs  ls hf hH hl
      rw [fX1_passDays_c2] at hf
      have j_17 : ∀ (L : M2) (H : Heap) (locs : List Loc) (ls : Array Slot), fX1_passDays_c17  L = some L' → Hp g A s H locs (wL g ad L) → lv_has ls 3 [] → W p l e rmX1_passDays s m args below meth c H locs 0 0 (QV g A below args s (wL g ad L')) (F0 m 17 ls []) := by
        intro L H locs  ls hf hH hl
        rw [fX1_passDays_c17] at hf
        have h1 := Option.some.inj hf
        subst h1
        exact retV C hH dX1_passDays_17
      refine lv_iload_n hx hb dX1_passDays_2 rfl (lv_at hl 2 rfl) ?_
      refine lv_iload_n hx hb dX1_passDays_3 rfl (lv_at hl 1 rfl) ?_
      refine lv_icmp_ge (tgt := 17) hx hb dX1_passDays_4 (by decide) (fun c_5 => ?_) (fun c_5 => ?_)
      · have hf := if_p hf c_5
        exact j_17 L _ _ ls hf hH (lv_sub hl [] rfl)
      · have hf := if_n hf c_5
        refine lv_aload_n hx hb dX1_passDays_7 rfl (lv_at hl 0 rfl) ?_
        obtain ⟨L_6, hc_7, hf⟩ := bind_inv hf
        refine aftV (runV C hE hA hH [0, 1, 2, 3, 4, 5, 6] nC_L_L_0_6 (sC_L_L_0_6 g ad L) (kX1_passDay l g ad _ L L_6  hc_7) tw_14_5 tw_14_6 tw_14_7 tw_1_15 tw_14_8 hdX1_passDay 0 rfl rfl rfl rfl ⟨Nat.le_of_ble_eq_true rfl, Nat.le_of_ble_eq_true rfl⟩ rfl hl.1 (rest := []) rfl (Nat.le_of_ble_eq_true rfl) dX1_passDays_8 ⟨Nat.zero_le _, Nat.zero_le _⟩) hA hH [0, 1, 2, 3, 4, 5, 6] [] (sC_L_L_0_6 g ad L) (sR_L_L_0_6 g ad L) nR_L_L_0_6 dj_L_L_0_6 [0, 1, 2, 3, 4, 5, 6] nP_L_L_0_6 (sP_L_L_0_6 g ad L L_6) (fun H locs hH => ?_)
        obtain ⟨v_8, ev_8⟩ : ∃ z : Int32, z = y2 + (1 : Int32) := ⟨_, rfl⟩
        have hf := letb_at hf v_8 ev_8
        refine lv_iinc (v := v_8) (lv' := [(2, .int v_8), (0, .ref (ad 0)), (1, .int y1)]) hx hb dX1_passDays_11 hl (k := 2) rfl (by rw [ev_8]; rfl) (by decide) rfl (fun ls hl => ?_)
        refine lv_goto (tgt := 2) hx hb dX1_passDays_14 (by decide) ?_
        exact ih_2 y1 v_8 L_6 _ _ ls hf hH (lv_sub hl [1, 2, 0] rfl)
  refine lv_iconst (v := 0) hx hb dX1_passDays_0 (by decide) ?_
  refine lv_istore_n (lv' := [(2, .int (0 : Int32)), (0, .ref (ad 0)), (1, .int x1)]) hx hb dX1_passDays_1 rfl hl (by decide) rfl (fun ls hl => ?_)
  exact lp_2 _ x1 (0 : Int32) L _ _ ls hf hH (lv_sub hl [1, 2, 0] rfl)
def fX1_haveJustMet_c37  (z0 : Int32) (L : M2) : Option (Int32) := grd (isB z0) (some z0)
def fX1_haveJustMet_c32  (L : M2) : Option (Int32) := fX1_haveJustMet_c37  (1 : Int32) L
def fX1_haveJustMet_c36  (L : M2) : Option (Int32) := fX1_haveJustMet_c37  (0 : Int32) L
def fX1_haveJustMet_c16  (y1 : Int32) (y2 : Int32) (L : M2) : Option (Int32) := (if (L 0 7) = y2 then (if (L 0 8) = y1 then fX1_haveJustMet_c32  L else fX1_haveJustMet_c36  L) else fX1_haveJustMet_c36  L)
def fX1_haveJustMet (x1 : Int32) (x2 : Int32) (L : M2) : Option (Int32) := (if (L 0 7) = x1 then (if (L 0 8) = x2 then fX1_haveJustMet_c32  L else fX1_haveJustMet_c16  x1 x2 L) else fX1_haveJustMet_c16  x1 x2 L)
def rmX1_haveJustMet : Room := { frames := 0, cells := 0, slots := 0, locals := 0 }
theorem hdX1_haveJustMet : yX1_haveJustMet.cls = yX1_haveJustMet.cls ∧ yX1_haveJustMet.cls ≠ "java/lang/invoke/MethodHandle" ∧ yX1_haveJustMet.cls ≠ "java/lang/invoke/VarHandle" ∧ (parseMethodDescriptor yX1_haveJustMet.desc).map (fun d => d.parameters.length) = some 2 := by decide +kernel
set_option maxHeartbeats 4000000 in
set_option maxRecDepth 100000 in
theorem kX1_haveJustMet (l : Launch) (g : Gl) (ad : Nat → Nat) (sz : Nat) (L : M2) (x1 : Int32) (x2 : Int32) (r : Int32)  (hf : fX1_haveJustMet x1 x2 L = some r) : MetPI l yX1_haveJustMet (Cond.code yX1_haveJustMet cX1_haveJustMet 3 (some .boolean) :: wsL_law) rmX1_haveJustMet [.ref (ad 0), .int x1, .int x2] g (wL g ad L) sz r := by
  refine openPI (by decide +kernel) (Nat.le_of_ble_eq_true rfl) ?_
  intro p e s m args below meth c A C hE hA hH ls hl
  have hl : lv_has ls 3 [(0, .ref (ad 0)), (1, .int x1), (2, .int x2)] := hl
  have C : Cx p s m args meth c cX1_haveJustMet 3 (some .boolean) RX1 := C
  obtain ⟨hx, hb, hml, hown, hT, hr, hlk⟩ := id C
  rw [fX1_haveJustMet] at hf
  have j_37 : ∀ (z0 : Int32) (ls : Array Slot), fX1_haveJustMet_c37  z0 L = some r → lv_has ls 3 [] → W p l e rmX1_haveJustMet s m args below meth c s.heap [] 0 0 (QPI below args s r) (F0 m 37 ls [.int z0]) := by
    intro z0  ls hf hl
    rw [fX1_haveJustMet_c37] at hf
    obtain ⟨hz, hf⟩ := grd_inv hf
    have h1 := Option.some.inj hf
    subst h1
    exact retPI C (isB_nar hz) dX1_haveJustMet_37
  have j_32 : ∀  (ls : Array Slot), fX1_haveJustMet_c32  L = some r → lv_has ls 3 [] → W p l e rmX1_haveJustMet s m args below meth c s.heap [] 0 0 (QPI below args s r) (F0 m 32 ls []) := by
    intro  ls hf hl
    rw [fX1_haveJustMet_c32] at hf
    refine lv_iconst (v := 1) hx hb dX1_haveJustMet_32 (by decide) ?_
    refine lv_goto (tgt := 37) hx hb dX1_haveJustMet_33 (by decide) ?_
    exact j_37 (1 : Int32) ls hf (lv_sub hl [] rfl)
  have j_16 : ∀ (y1 : Int32) (y2 : Int32) (ls : Array Slot), fX1_haveJustMet_c16  y1 y2 L = some r → lv_has ls 3 [(0, .ref (ad 0)), (1, .int y1), (2, .int y2)] → W p l e rmX1_haveJustMet s m args below meth c s.heap [] 0 0 (QPI below args s r) (F0 m 16 ls []) := by
    intro y1 y2  ls hf hl
    rw [fX1_haveJustMet_c16] at hf
    have j_36 : ∀  (ls : Array Slot), fX1_haveJustMet_c36  L = some r → lv_has ls 3 [] → W p l e rmX1_haveJustMet s m args below meth c s.heap [] 0 0 (QPI below args s r) (F0 m 36 ls []) := by
      intro  ls hf hl
      rw [fX1_haveJustMet_c36] at hf
      refine lv_iconst (v := 0) hx hb dX1_haveJustMet_36 (by decide) ?_
      exact j_37 (0 : Int32) ls hf (lv_sub hl [] rfl)
    refine lv_aload_n hx hb dX1_haveJustMet_16 rfl (lv_at hl 0 rfl) ?_
    refine gf_RX1_52 C hE hH 0 rfl rfl dX1_haveJustMet_17 ?_
    refine lv_iload_n hx hb dX1_haveJustMet_20 rfl (lv_at hl 2 rfl) ?_
    refine lv_icmp_ne (tgt := 36) hx hb dX1_haveJustMet_21 (by decide) (fun c_5 => ?_) (fun c_5 => ?_)
    · have hf := if_n hf c_5
      exact j_36  ls hf (lv_sub hl [] rfl)
    · have hf := if_p hf c_5
      refine lv_aload_n hx hb dX1_haveJustMet_24 rfl (lv_at hl 0 rfl) ?_
      refine gf_RX1_55 C hE hH 0 rfl rfl dX1_haveJustMet_25 ?_
      refine lv_iload_n hx hb dX1_haveJustMet_28 rfl (lv_at hl 1 rfl) ?_
      refine lv_icmp_ne (tgt := 36) hx hb dX1_haveJustMet_29 (by decide) (fun c_6 => ?_) (fun c_6 => ?_)
      · have hf := if_n hf c_6
        exact j_36  ls hf (lv_sub hl [] rfl)
      · have hf := if_p hf c_6
        exact j_32  ls hf (lv_sub hl [] rfl)
  refine lv_aload_n hx hb dX1_haveJustMet_0 rfl (lv_at hl 0 rfl) ?_
  refine gf_RX1_52 C hE hH 0 rfl rfl dX1_haveJustMet_1 ?_
  refine lv_iload_n hx hb dX1_haveJustMet_4 rfl (lv_at hl 1 rfl) ?_
  refine lv_icmp_ne (tgt := 16) hx hb dX1_haveJustMet_5 (by decide) (fun c_7 => ?_) (fun c_7 => ?_)
  · have hf := if_n hf c_7
    exact j_16 x1 x2 ls hf (lv_sub hl [0, 1, 2] rfl)
  · have hf := if_p hf c_7
    refine lv_aload_n hx hb dX1_haveJustMet_8 rfl (lv_at hl 0 rfl) ?_
    refine gf_RX1_55 C hE hH 0 rfl rfl dX1_haveJustMet_9 ?_
    refine lv_iload_n hx hb dX1_haveJustMet_12 rfl (lv_at hl 2 rfl) ?_
    refine lv_icmp_eq (tgt := 32) hx hb dX1_haveJustMet_13 (by decide) (fun c_8 => ?_) (fun c_8 => ?_)
    · have hf := if_p hf c_8
      exact j_32  ls hf (lv_sub hl [] rfl)
    · have hf := if_n hf c_8
      exact j_16 x1 x2 ls hf (lv_sub hl [0, 1, 2] rfl)
def fX1_daysToRelief_c55  (y1 : Int32) (L : M2) : Option (Int32) := some (y1 + (1 : Int32))
def fX1_daysToRelief_c47  (y3 : Int32) (L : M2) : Option (Int32) := some y3
def fX1_daysToRelief_c42 (k_19 : Int32 → Int32 → Int32 → M2 → Option (Int32)) (y1 : Int32) (y2 : Int32) (y3 : Int32) (L : M2) : Option (Int32) := (if y2 < (3 : Int32) then letb (y3 + (1 : Int32)) (fun v_13 : Int32 => k_19 y1 y2 v_13 L) else fX1_daysToRelief_c47  y3 L)
def fX1_daysToRelief_c19  : Nat → Int32 → Int32 → Int32 → M2 → Option (Int32)
  | 0, _, _, _, _ => none
  | n + 1, y1, y2, y3, L => (if y1 < y3 then fX1_daysToRelief_c55  y1 L else (fX1_hasGaleOn (((L 0 0) + y3) - (1 : Int32)) L).bind (fun (r_15 : Int32) => (if r_15 = 0 then fX1_daysToRelief_c42 (fX1_daysToRelief_c19 n) y1 y2 y3 L else letb (y2 + (1 : Int32)) (fun v_18 : Int32 => fX1_daysToRelief_c42 (fX1_daysToRelief_c19 n) y1 v_18 y3 L))))
def fX1_daysToRelief (x1 : Int32) (L : M2) : Option (Int32) := (fX1_countStanding (0 : Int32) L).bind (fun (r_19 : Int32) => (if r_19 = 0 then some (x1 + (1 : Int32)) else letb (L 0 4) (fun v_22 : Int32 => fX1_daysToRelief_c19  FU x1 v_22 (1 : Int32) L)))
def rmX1_daysToRelief : Room := { frames := 3, cells := 0, slots := 0, locals := 64 }
theorem hdX1_daysToRelief : yX1_daysToRelief.cls = yX1_daysToRelief.cls ∧ yX1_daysToRelief.cls ≠ "java/lang/invoke/MethodHandle" ∧ yX1_daysToRelief.cls ≠ "java/lang/invoke/VarHandle" ∧ (parseMethodDescriptor yX1_daysToRelief.desc).map (fun d => d.parameters.length) = some 1 := by decide +kernel
set_option maxHeartbeats 4000000 in
set_option maxRecDepth 100000 in
theorem kX1_daysToRelief (l : Launch) (g : Gl) (ad : Nat → Nat) (sz : Nat) (L : M2) (x1 : Int32) (r : Int32)  (hf : fX1_daysToRelief x1 L = some r) : MetPI l yX1_daysToRelief (Cond.code yX1_daysToRelief cX1_daysToRelief 4 (some .int) :: wsL_law) rmX1_daysToRelief [.ref (ad 0), .int x1] g (wL g ad L) sz r := by
  refine openPI (by decide +kernel) (Nat.le_of_ble_eq_true rfl) ?_
  intro p e s m args below meth c A C hE hA hH ls hl
  have hl : lv_has ls 4 [(0, .ref (ad 0)), (1, .int x1)] := hl
  have C : Cx p s m args meth c cX1_daysToRelief 4 (some .int) RX1 := C
  obtain ⟨hx, hb, hml, hown, hT, hr, hlk⟩ := id C
  rw [fX1_daysToRelief] at hf
  have lp_19 : ∀ (n_19 : Nat) (y1 : Int32) (y2 : Int32) (y3 : Int32) (ls : Array Slot), fX1_daysToRelief_c19  n_19 y1 y2 y3 L = some r → lv_has ls 4 [(0, .ref (ad 0)), (1, .int y1), (2, .int y2), (3, .int y3)] → W p l e rmX1_daysToRelief s m args below meth c s.heap [] 0 0 (QPI below args s r) (F0 m 19 ls []) := by
    intro n_19
    induction n_19 with
    | zero =>
      intro y1 y2 y3  ls hf hl
      rw [fX1_daysToRelief_c19] at hf
      cases hf
    | succ n_19 ih_19 =>
      intro y1 y2 y3  ls hf hl
      rw [fX1_daysToRelief_c19] at hf
      have j_55 : ∀ (y1 : Int32) (ls : Array Slot), fX1_daysToRelief_c55  y1 L = some r → lv_has ls 4 [(1, .int y1)] → W p l e rmX1_daysToRelief s m args below meth c s.heap [] 0 0 (QPI below args s r) (F0 m 55 ls []) := by
        intro y1  ls hf hl
        rw [fX1_daysToRelief_c55] at hf
        refine lv_iload_n hx hb dX1_daysToRelief_55 rfl (lv_at hl 0 rfl) ?_
        refine lv_iconst (v := 1) hx hb dX1_daysToRelief_56 (by decide) ?_
        refine lv_iadd hx hb dX1_daysToRelief_57 ?_
        have h1 := Option.some.inj hf
        subst h1
        exact retPI C rfl dX1_daysToRelief_58
      have j_42 : ∀ (y1 : Int32) (y2 : Int32) (y3 : Int32) (ls : Array Slot), fX1_daysToRelief_c42 (fX1_daysToRelief_c19 n_19) y1 y2 y3 L = some r → lv_has ls 4 [(0, .ref (ad 0)), (1, .int y1), (2, .int y2), (3, .int y3)] → W p l e rmX1_daysToRelief s m args below meth c s.heap [] 0 0 (QPI below args s r) (F0 m 42 ls []) := by
        intro y1 y2 y3  ls hf hl
        rw [fX1_daysToRelief_c42] at hf
        have j_47 : ∀ (y3 : Int32) (ls : Array Slot), fX1_daysToRelief_c47  y3 L = some r → lv_has ls 4 [(3, .int y3)] → W p l e rmX1_daysToRelief s m args below meth c s.heap [] 0 0 (QPI below args s r) (F0 m 47 ls []) := by
          intro y3  ls hf hl
          rw [fX1_daysToRelief_c47] at hf
          refine lv_iload_n hx hb dX1_daysToRelief_47 rfl (lv_at hl 0 rfl) ?_
          have h1 := Option.some.inj hf
          subst h1
          exact retPI C rfl dX1_daysToRelief_48
        refine lv_iload_n hx hb dX1_daysToRelief_42 rfl (lv_at hl 2 rfl) ?_
        refine lv_iconst (v := 3) hx hb dX1_daysToRelief_43 (by decide) ?_
        refine lv_icmp_lt (tgt := 49) hx hb dX1_daysToRelief_44 (by decide) (fun c_12 => ?_) (fun c_12 => ?_)
        · have hf := if_p hf c_12
          obtain ⟨v_13, ev_13⟩ : ∃ z : Int32, z = y3 + (1 : Int32) := ⟨_, rfl⟩
          have hf := letb_at hf v_13 ev_13
          refine lv_iinc (v := v_13) (lv' := [(3, .int v_13), (0, .ref (ad 0)), (1, .int y1), (2, .int y2)]) hx hb dX1_daysToRelief_49 hl (k := 3) rfl (by rw [ev_13]; rfl) (by decide) rfl (fun ls hl => ?_)
          refine lv_goto (tgt := 19) hx hb dX1_daysToRelief_52 (by decide) ?_
          exact ih_19 y1 y2 v_13 ls hf (lv_sub hl [1, 2, 3, 0] rfl)
        · have hf := if_n hf c_12
          exact j_47 y3 ls hf (lv_sub hl [3] rfl)
      refine lv_iload_n hx hb dX1_daysToRelief_19 rfl (lv_at hl 3 rfl) ?_
      refine lv_iload_n hx hb dX1_daysToRelief_20 rfl (lv_at hl 1 rfl) ?_
      refine lv_icmp_gt (tgt := 55) hx hb dX1_daysToRelief_21 (by decide) (fun c_14 => ?_) (fun c_14 => ?_)
      · have hf := if_p hf c_14
        exact j_55 y1 ls hf (lv_sub hl [1] rfl)
      · have hf := if_n hf c_14
        refine lv_aload_n hx hb dX1_daysToRelief_24 rfl (lv_at hl 0 rfl) ?_
        refine lv_aload_n hx hb dX1_daysToRelief_25 rfl (lv_at hl 0 rfl) ?_
        refine gf_RX1_15 C hE hH 0 rfl rfl dX1_daysToRelief_26 ?_
        refine lv_iload_n hx hb dX1_daysToRelief_29 rfl (lv_at hl 3 rfl) ?_
        refine lv_iadd hx hb dX1_daysToRelief_30 ?_
        refine lv_iconst (v := 1) hx hb dX1_daysToRelief_31 (by decide) ?_
        refine lv_isub hx hb dX1_daysToRelief_32 ?_
        obtain ⟨r_15, hc_16, hf⟩ := bind_inv hf
        refine aftPI (runV C hE hA hH [0, 1, 2, 3, 4, 5, 6] nC_L_L_0_6 (sC_L_L_0_6 g ad L) (kX1_hasGaleOn l g ad _ L (((L 0 0) + y3) - (1 : Int32)) r_15  hc_16) tw_20_3 tw_6_2 tw_6_3 tw_1_15 tw_6_4 hdX1_hasGaleOn 0 rfl rfl rfl rfl ⟨Nat.le_of_ble_eq_true rfl, Nat.le_of_ble_eq_true rfl⟩ rfl hl.1 (rest := []) rfl (Nat.le_of_ble_eq_true rfl) dX1_daysToRelief_33 ⟨Nat.zero_le _, Nat.zero_le _⟩) ?_
        refine lv_if_eq (tgt := 42) hx hb dX1_daysToRelief_36 (by decide) (fun c_17 => ?_) (fun c_17 => ?_)
        · have hf := if_p hf c_17
          exact j_42 y1 y2 y3 ls hf (lv_sub hl [0, 1, 2, 3] rfl)
        · have hf := if_n hf c_17
          obtain ⟨v_18, ev_18⟩ : ∃ z : Int32, z = y2 + (1 : Int32) := ⟨_, rfl⟩
          have hf := letb_at hf v_18 ev_18
          refine lv_iinc (v := v_18) (lv' := [(2, .int v_18), (0, .ref (ad 0)), (1, .int y1), (3, .int y3)]) hx hb dX1_daysToRelief_39 hl (k := 2) rfl (by rw [ev_18]; rfl) (by decide) rfl (fun ls hl => ?_)
          exact j_42 y1 v_18 y3 ls hf (lv_sub hl [1, 2, 0, 3] rfl)
  refine lv_aload_n hx hb dX1_daysToRelief_0 rfl (lv_at hl 0 rfl) ?_
  refine lv_iconst (v := 0) hx hb dX1_daysToRelief_1 (by decide) ?_
  obtain ⟨r_19, hc_20, hf⟩ := bind_inv hf
  refine aftPI (runV C hE hA hH [0, 1, 2, 3, 4, 5, 6] nC_L_L_0_6 (sC_L_L_0_6 g ad L) (kX1_countStanding l g ad _ L (0 : Int32) r_19  hc_20) tw_15_11 tw_15_12 tw_15_13 tw_1_15 tw_15_14 hdX1_countStanding 0 rfl rfl rfl rfl ⟨Nat.le_of_ble_eq_true rfl, Nat.le_of_ble_eq_true rfl⟩ rfl hl.1 (rest := []) rfl (Nat.le_of_ble_eq_true rfl) dX1_daysToRelief_2 ⟨Nat.zero_le _, Nat.zero_le _⟩) ?_
  refine lv_if_ne (tgt := 12) hx hb dX1_daysToRelief_5 (by decide) (fun c_21 => ?_) (fun c_21 => ?_)
  · have hf := if_n hf c_21
    refine lv_aload_n hx hb dX1_daysToRelief_12 rfl (lv_at hl 0 rfl) ?_
    refine gf_RX1_22 C hE hH 0 rfl rfl dX1_daysToRelief_13 ?_
    refine lv_topi (fun v_22 ev_22 => ?_)
    have hf := letb_at hf v_22 ev_22
    refine lv_istore_n (lv' := [(2, .int v_22), (0, .ref (ad 0)), (1, .int x1)]) hx hb dX1_daysToRelief_16 rfl hl (by decide) rfl (fun ls hl => ?_)
    refine lv_iconst (v := 1) hx hb dX1_daysToRelief_17 (by decide) ?_
    refine lv_istore_n (lv' := [(3, .int (1 : Int32)), (2, .int v_22), (0, .ref (ad 0)), (1, .int x1)]) hx hb dX1_daysToRelief_18 rfl hl (by decide) rfl (fun ls hl => ?_)
    exact lp_19 _ x1 v_22 (1 : Int32) ls hf (lv_sub hl [2, 3, 1, 0] rfl)
  · have hf := if_p hf c_21
    refine lv_iload_n hx hb dX1_daysToRelief_8 rfl (lv_at hl 1 rfl) ?_
    refine lv_iconst (v := 1) hx hb dX1_daysToRelief_9 (by decide) ?_
    refine lv_iadd hx hb dX1_daysToRelief_10 ?_
    have h1 := Option.some.inj hf
    subst h1
    exact retPI C rfl dX1_daysToRelief_11
def fX1_becomeLike (L : M2) (O : M2) : Option (M2) := grd (cpok (0 : Int32) (0 : Int32) (28 : Int32) 28 28) (letb (st2 L 1 (va_cpy (O 1) (L 1) (0 : Int32).toNatClampNeg (0 : Int32).toNatClampNeg (28 : Int32).toNatClampNeg)) (fun L_20 : M2 => letb (st2 L_20 0 (upd (L_20 0) 0 (O 0 0))) (fun L_22 : M2 => letb (st2 L_22 0 (upd (L_22 0) 1 (O 0 1))) (fun L_23 : M2 => letb (st2 L_23 0 (upd (L_23 0) 4 (O 0 4))) (fun L_24 : M2 => letb (st2 L_24 0 (upd (L_24 0) 2 (O 0 2))) (fun L_25 : M2 => letb (st2 L_25 0 (upd (L_25 0) 3 (O 0 3))) (fun L_26 : M2 => letb (st2 L_26 0 (upd (L_26 0) 5 (O 0 5))) (fun L_27 : M2 => letb (st2 L_27 0 (upd (L_27 0) 6 (O 0 6))) (fun L_28 : M2 => grd (cpok (0 : Int32) (0 : Int32) (8 : Int32) 8 8) (letb (st2 L_28 2 (va_cpy (O 2) (L_28 2) (0 : Int32).toNatClampNeg (0 : Int32).toNatClampNeg (8 : Int32).toNatClampNeg)) (fun L_29 : M2 => grd (cpok (0 : Int32) (0 : Int32) (8 : Int32) 8 8) (letb (st2 L_29 3 (va_cpy (O 3) (L_29 3) (0 : Int32).toNatClampNeg (0 : Int32).toNatClampNeg (8 : Int32).toNatClampNeg)) (fun L_31 : M2 => grd (cpok (0 : Int32) (0 : Int32) (8 : Int32) 8 8) (letb (st2 L_31 4 (va_cpy (O 4) (L_31 4) (0 : Int32).toNatClampNeg (0 : Int32).toNatClampNeg (8 : Int32).toNatClampNeg)) (fun L_33 : M2 => grd (cpok (0 : Int32) (0 : Int32) (8 : Int32) 8 8) (letb (st2 L_33 5 (va_cpy (O 5) (L_33 5) (0 : Int32).toNatClampNeg (0 : Int32).toNatClampNeg (8 : Int32).toNatClampNeg)) (fun L_35 : M2 => grd (cpok (0 : Int32) (0 : Int32) (8 : Int32) 8 8) (letb (st2 L_35 6 (va_cpy (O 6) (L_35 6) (0 : Int32).toNatClampNeg (0 : Int32).toNatClampNeg (8 : Int32).toNatClampNeg)) (fun L_37 : M2 => some L_37)))))))))))))))))))
def rmX1_becomeLike : Room := { frames := 1, cells := 0, slots := 0, locals := 26 }
theorem hdX1_becomeLike : yX1_becomeLike.cls = yX1_becomeLike.cls ∧ yX1_becomeLike.cls ≠ "java/lang/invoke/MethodHandle" ∧ yX1_becomeLike.cls ≠ "java/lang/invoke/VarHandle" ∧ (parseMethodDescriptor yX1_becomeLike.desc).map (fun d => d.parameters.length) = some 1 := by decide +kernel
set_option maxHeartbeats 4000000 in
set_option maxRecDepth 100000 in
theorem kX1_becomeLike (l : Launch) (g : Gl) (ad : Nat → Nat) (sz : Nat) (L : M2) (O : M2)  (L' : M2)  (hf : fX1_becomeLike L O = some L') : MetV l yX1_becomeLike (Cond.code yX1_becomeLike cX1_becomeLike 2 none :: wsL_law) rmX1_becomeLike [.ref (ad 0), .ref (ad 7)] g (wLL g ad L O) sz (wLL g ad L' O) := by
  refine openV (by decide +kernel) (Nat.le_of_ble_eq_true rfl) ?_
  intro p e s m args below meth c A C hE hA hH ls hl
  have hl : lv_has ls 2 [(0, .ref (ad 0)), (1, .ref (ad 7))] := hl
  have C : Cx p s m args meth c cX1_becomeLike 2 none RX1 := C
  obtain ⟨hx, hb, hml, hown, hT, hr, hlk⟩ := id C
  rw [fX1_becomeLike] at hf
  refine lv_aload_n hx hb dX1_becomeLike_0 rfl (lv_at hl 1 rfl) ?_
  refine gf_RX1_9 C hE hH 7 rfl rfl dX1_becomeLike_1 ?_
  refine lv_iconst (v := 0) hx hb dX1_becomeLike_4 (by decide) ?_
  refine lv_aload_n hx hb dX1_becomeLike_5 rfl (lv_at hl 0 rfl) ?_
  refine gf_RX1_9 C hE hH 0 rfl rfl dX1_becomeLike_6 ?_
  refine lv_iconst (v := 0) hx hb dX1_becomeLike_9 (by decide) ?_
  refine lv_bipush (v := 28) hx hb dX1_becomeLike_10 (by decide) ?_
  obtain ⟨hi_21, hf⟩ := grd_inv hf
  refine xcopyi C hE hH hl.1 tw_18_22 tw_18_23 tw_19_0 tw_19_1 8 1 rfl rfl hi_21 (Nat.le_of_ble_eq_true rfl) (Nat.le_of_ble_eq_true rfl) (fun q : M2 => wLL g ad q O) (st2 L 1 (va_cpy (O 1) (L 1) (0 : Int32).toNatClampNeg (0 : Int32).toNatClampNeg (28 : Int32).toNatClampNeg)) rfl dX1_becomeLike_12 (fun L_20 eL_20 H locs hH => ?_)
  have hf := letb_at hf L_20 eL_20
  refine lv_aload_n hx hb dX1_becomeLike_15 rfl (lv_at hl 0 rfl) ?_
  refine lv_aload_n hx hb dX1_becomeLike_16 rfl (lv_at hl 1 rfl) ?_
  refine gf_RX1_15 C hE hH 7 rfl rfl dX1_becomeLike_17 ?_
  refine pf_RX1_15 C hE hH 0 rfl rfl rfl (Nat.le_of_ble_eq_true rfl) (fun q : M2 => wLL g ad q O) (st2 L_20 0 (upd (L_20 0) 0 (O 0 0))) rfl dX1_becomeLike_20 (fun L_22 eL_22 H locs hH => ?_)
  have hf := letb_at hf L_22 eL_22
  refine lv_aload_n hx hb dX1_becomeLike_23 rfl (lv_at hl 0 rfl) ?_
  refine lv_aload_n hx hb dX1_becomeLike_24 rfl (lv_at hl 1 rfl) ?_
  refine gf_RX1_19 C hE hH 7 rfl rfl dX1_becomeLike_25 ?_
  refine pf_RX1_19 C hE hH 0 rfl rfl rfl (Nat.le_of_ble_eq_true rfl) (fun q : M2 => wLL g ad q O) (st2 L_22 0 (upd (L_22 0) 1 (O 0 1))) rfl dX1_becomeLike_28 (fun L_23 eL_23 H locs hH => ?_)
  have hf := letb_at hf L_23 eL_23
  refine lv_aload_n hx hb dX1_becomeLike_31 rfl (lv_at hl 0 rfl) ?_
  refine lv_aload_n hx hb dX1_becomeLike_32 rfl (lv_at hl 1 rfl) ?_
  refine gf_RX1_22 C hE hH 7 rfl rfl dX1_becomeLike_33 ?_
  refine pf_RX1_22 C hE hH 0 rfl rfl rfl (Nat.le_of_ble_eq_true rfl) (fun q : M2 => wLL g ad q O) (st2 L_23 0 (upd (L_23 0) 4 (O 0 4))) rfl dX1_becomeLike_36 (fun L_24 eL_24 H locs hH => ?_)
  have hf := letb_at hf L_24 eL_24
  refine lv_aload_n hx hb dX1_becomeLike_39 rfl (lv_at hl 0 rfl) ?_
  refine lv_aload_n hx hb dX1_becomeLike_40 rfl (lv_at hl 1 rfl) ?_
  refine gf_RX1_25 C hE hH 7 rfl rfl dX1_becomeLike_41 ?_
  refine pf_RX1_25 C hE hH 0 rfl rfl rfl (Nat.le_of_ble_eq_true rfl) (fun q : M2 => wLL g ad q O) (st2 L_24 0 (upd (L_24 0) 2 (O 0 2))) rfl dX1_becomeLike_44 (fun L_25 eL_25 H locs hH => ?_)
  have hf := letb_at hf L_25 eL_25
  refine lv_aload_n hx hb dX1_becomeLike_47 rfl (lv_at hl 0 rfl) ?_
  refine lv_aload_n hx hb dX1_becomeLike_48 rfl (lv_at hl 1 rfl) ?_
  refine gf_RX1_28 C hE hH 7 rfl rfl dX1_becomeLike_49 ?_
  refine pf_RX1_28 C hE hH 0 rfl rfl rfl (Nat.le_of_ble_eq_true rfl) (fun q : M2 => wLL g ad q O) (st2 L_25 0 (upd (L_25 0) 3 (O 0 3))) rfl dX1_becomeLike_52 (fun L_26 eL_26 H locs hH => ?_)
  have hf := letb_at hf L_26 eL_26
  refine lv_aload_n hx hb dX1_becomeLike_55 rfl (lv_at hl 0 rfl) ?_
  refine lv_aload_n hx hb dX1_becomeLike_56 rfl (lv_at hl 1 rfl) ?_
  refine gf_RX1_31 C hE hH 7 rfl rfl dX1_becomeLike_57 ?_
  refine pf_RX1_31 C hE hH 0 rfl rfl rfl (Nat.le_of_ble_eq_true rfl) (fun q : M2 => wLL g ad q O) (st2 L_26 0 (upd (L_26 0) 5 (O 0 5))) rfl dX1_becomeLike_60 (fun L_27 eL_27 H locs hH => ?_)
  have hf := letb_at hf L_27 eL_27
  refine lv_aload_n hx hb dX1_becomeLike_63 rfl (lv_at hl 0 rfl) ?_
  refine lv_aload_n hx hb dX1_becomeLike_64 rfl (lv_at hl 1 rfl) ?_
  refine gf_RX1_34 C hE hH 7 rfl rfl dX1_becomeLike_65 ?_
  refine pf_RX1_34 C hE hH 0 rfl rfl rfl (Nat.le_of_ble_eq_true rfl) (fun q : M2 => wLL g ad q O) (st2 L_27 0 (upd (L_27 0) 6 (O 0 6))) rfl dX1_becomeLike_68 (fun L_28 eL_28 H locs hH => ?_)
  have hf := letb_at hf L_28 eL_28
  refine lv_aload_n hx hb dX1_becomeLike_71 rfl (lv_at hl 1 rfl) ?_
  refine gf_RX1_37 C hE hH 7 rfl rfl dX1_becomeLike_72 ?_
  refine lv_iconst (v := 0) hx hb dX1_becomeLike_75 (by decide) ?_
  refine lv_aload_n hx hb dX1_becomeLike_76 rfl (lv_at hl 0 rfl) ?_
  refine gf_RX1_37 C hE hH 0 rfl rfl dX1_becomeLike_77 ?_
  refine lv_iconst (v := 0) hx hb dX1_becomeLike_80 (by decide) ?_
  refine lv_bipush (v := 8) hx hb dX1_becomeLike_81 (by decide) ?_
  obtain ⟨hi_30, hf⟩ := grd_inv hf
  refine xcopyi C hE hH hl.1 tw_18_22 tw_18_23 tw_19_0 tw_19_1 9 2 rfl rfl hi_30 (Nat.le_of_ble_eq_true rfl) (Nat.le_of_ble_eq_true rfl) (fun q : M2 => wLL g ad q O) (st2 L_28 2 (va_cpy (O 2) (L_28 2) (0 : Int32).toNatClampNeg (0 : Int32).toNatClampNeg (8 : Int32).toNatClampNeg)) rfl dX1_becomeLike_83 (fun L_29 eL_29 H locs hH => ?_)
  have hf := letb_at hf L_29 eL_29
  refine lv_aload_n hx hb dX1_becomeLike_86 rfl (lv_at hl 1 rfl) ?_
  refine gf_RX1_40 C hE hH 7 rfl rfl dX1_becomeLike_87 ?_
  refine lv_iconst (v := 0) hx hb dX1_becomeLike_90 (by decide) ?_
  refine lv_aload_n hx hb dX1_becomeLike_91 rfl (lv_at hl 0 rfl) ?_
  refine gf_RX1_40 C hE hH 0 rfl rfl dX1_becomeLike_92 ?_
  refine lv_iconst (v := 0) hx hb dX1_becomeLike_95 (by decide) ?_
  refine lv_bipush (v := 8) hx hb dX1_becomeLike_96 (by decide) ?_
  obtain ⟨hi_32, hf⟩ := grd_inv hf
  refine xcopyi C hE hH hl.1 tw_18_22 tw_18_23 tw_19_0 tw_19_1 10 3 rfl rfl hi_32 (Nat.le_of_ble_eq_true rfl) (Nat.le_of_ble_eq_true rfl) (fun q : M2 => wLL g ad q O) (st2 L_29 3 (va_cpy (O 3) (L_29 3) (0 : Int32).toNatClampNeg (0 : Int32).toNatClampNeg (8 : Int32).toNatClampNeg)) rfl dX1_becomeLike_98 (fun L_31 eL_31 H locs hH => ?_)
  have hf := letb_at hf L_31 eL_31
  refine lv_aload_n hx hb dX1_becomeLike_101 rfl (lv_at hl 1 rfl) ?_
  refine gf_RX1_43 C hE hH 7 rfl rfl dX1_becomeLike_102 ?_
  refine lv_iconst (v := 0) hx hb dX1_becomeLike_105 (by decide) ?_
  refine lv_aload_n hx hb dX1_becomeLike_106 rfl (lv_at hl 0 rfl) ?_
  refine gf_RX1_43 C hE hH 0 rfl rfl dX1_becomeLike_107 ?_
  refine lv_iconst (v := 0) hx hb dX1_becomeLike_110 (by decide) ?_
  refine lv_bipush (v := 8) hx hb dX1_becomeLike_111 (by decide) ?_
  obtain ⟨hi_34, hf⟩ := grd_inv hf
  refine xcopyi C hE hH hl.1 tw_18_22 tw_18_23 tw_19_0 tw_19_1 11 4 rfl rfl hi_34 (Nat.le_of_ble_eq_true rfl) (Nat.le_of_ble_eq_true rfl) (fun q : M2 => wLL g ad q O) (st2 L_31 4 (va_cpy (O 4) (L_31 4) (0 : Int32).toNatClampNeg (0 : Int32).toNatClampNeg (8 : Int32).toNatClampNeg)) rfl dX1_becomeLike_113 (fun L_33 eL_33 H locs hH => ?_)
  have hf := letb_at hf L_33 eL_33
  refine lv_aload_n hx hb dX1_becomeLike_116 rfl (lv_at hl 1 rfl) ?_
  refine gf_RX1_46 C hE hH 7 rfl rfl dX1_becomeLike_117 ?_
  refine lv_iconst (v := 0) hx hb dX1_becomeLike_120 (by decide) ?_
  refine lv_aload_n hx hb dX1_becomeLike_121 rfl (lv_at hl 0 rfl) ?_
  refine gf_RX1_46 C hE hH 0 rfl rfl dX1_becomeLike_122 ?_
  refine lv_iconst (v := 0) hx hb dX1_becomeLike_125 (by decide) ?_
  refine lv_bipush (v := 8) hx hb dX1_becomeLike_126 (by decide) ?_
  obtain ⟨hi_36, hf⟩ := grd_inv hf
  refine xcopyi C hE hH hl.1 tw_18_22 tw_18_23 tw_19_0 tw_19_1 12 5 rfl rfl hi_36 (Nat.le_of_ble_eq_true rfl) (Nat.le_of_ble_eq_true rfl) (fun q : M2 => wLL g ad q O) (st2 L_33 5 (va_cpy (O 5) (L_33 5) (0 : Int32).toNatClampNeg (0 : Int32).toNatClampNeg (8 : Int32).toNatClampNeg)) rfl dX1_becomeLike_128 (fun L_35 eL_35 H locs hH => ?_)
  have hf := letb_at hf L_35 eL_35
  refine lv_aload_n hx hb dX1_becomeLike_131 rfl (lv_at hl 1 rfl) ?_
  refine gf_RX1_49 C hE hH 7 rfl rfl dX1_becomeLike_132 ?_
  refine lv_iconst (v := 0) hx hb dX1_becomeLike_135 (by decide) ?_
  refine lv_aload_n hx hb dX1_becomeLike_136 rfl (lv_at hl 0 rfl) ?_
  refine gf_RX1_49 C hE hH 0 rfl rfl dX1_becomeLike_137 ?_
  refine lv_iconst (v := 0) hx hb dX1_becomeLike_140 (by decide) ?_
  refine lv_bipush (v := 8) hx hb dX1_becomeLike_141 (by decide) ?_
  obtain ⟨hi_38, hf⟩ := grd_inv hf
  refine xcopyi C hE hH hl.1 tw_18_22 tw_18_23 tw_19_0 tw_19_1 13 6 rfl rfl hi_38 (Nat.le_of_ble_eq_true rfl) (Nat.le_of_ble_eq_true rfl) (fun q : M2 => wLL g ad q O) (st2 L_35 6 (va_cpy (O 6) (L_35 6) (0 : Int32).toNatClampNeg (0 : Int32).toNatClampNeg (8 : Int32).toNatClampNeg)) rfl dX1_becomeLike_143 (fun L_37 eL_37 H locs hH => ?_)
  have hf := letb_at hf L_37 eL_37
  have h1 := Option.some.inj hf
  subst h1
  exact retV C hH dX1_becomeLike_146
