def fX1_measure (x1 : Int32) (L : M2) : Option (Int32) := (if x1 = 0 then some (L 0 1) else (if x1 = 1 then some (L 0 2) else (if x1 = 2 then some (L 0 3) else some (L 0 4))))
def rmX1_measure : Room := { frames := 0, cells := 0, slots := 0, locals := 0 }
theorem hdX1_measure : yX1_measure.cls = yX1_measure.cls ∧ yX1_measure.cls ≠ "java/lang/invoke/MethodHandle" ∧ yX1_measure.cls ≠ "java/lang/invoke/VarHandle" ∧ (parseMethodDescriptor yX1_measure.desc).map (fun d => d.parameters.length) = some 1 := by decide +kernel
set_option maxHeartbeats 4000000 in
set_option maxRecDepth 100000 in
theorem kX1_measure (l : Launch) (g : Gl) (ad : Nat → Nat) (sz : Nat) (L : M2) (x1 : Int32) (r : Int32)  (hf : fX1_measure x1 L = some r) : MetPI l yX1_measure (Cond.code yX1_measure cX1_measure 2 (some .int) :: wsL_law) rmX1_measure [.ref (ad 0), .int x1] g (wL g ad L) sz r := by
  refine openPI (by decide +kernel) (Nat.le_of_ble_eq_true rfl) ?_
  intro p e s m args below meth c A C hE hA hH ls hl
  have hl : lv_has ls 2 [(0, .ref (ad 0)), (1, .int x1)] := hl
  have C : Cx p s m args meth c cX1_measure 2 (some .int) RX1 := C
  obtain ⟨hx, hb, hml, hown, hT, hr, hlk⟩ := id C
  rw [fX1_measure] at hf
  refine lv_iload_n hx hb dX1_measure_0 rfl (lv_at hl 1 rfl) ?_
  by_cases c_4 : x1 = 0
  · have hf := if_p hf c_4
    refine lv_tableIn (tgt := 28) hx hb dX1_measure_1 (by rw [c_4]; decide) (by rw [c_4]; decide) (by rw [c_4]; rfl) (by decide) ?_
    refine lv_aload_n hx hb dX1_measure_28 rfl (lv_at hl 0 rfl) ?_
    refine gf_RX1_19 C hE hH 0 rfl rfl dX1_measure_29 ?_
    have h1 := Option.some.inj hf
    subst h1
    exact retPI C rfl dX1_measure_32
  have hf := if_n hf c_4
  by_cases c_5 : x1 = 1
  · have hf := if_p hf c_5
    refine lv_tableIn (tgt := 33) hx hb dX1_measure_1 (by rw [c_5]; decide) (by rw [c_5]; decide) (by rw [c_5]; rfl) (by decide) ?_
    refine lv_aload_n hx hb dX1_measure_33 rfl (lv_at hl 0 rfl) ?_
    refine gf_RX1_25 C hE hH 0 rfl rfl dX1_measure_34 ?_
    have h1 := Option.some.inj hf
    subst h1
    exact retPI C rfl dX1_measure_37
  have hf := if_n hf c_5
  by_cases c_6 : x1 = 2
  · have hf := if_p hf c_6
    refine lv_tableIn (tgt := 38) hx hb dX1_measure_1 (by rw [c_6]; decide) (by rw [c_6]; decide) (by rw [c_6]; rfl) (by decide) ?_
    refine lv_aload_n hx hb dX1_measure_38 rfl (lv_at hl 0 rfl) ?_
    refine gf_RX1_28 C hE hH 0 rfl rfl dX1_measure_39 ?_
    have h1 := Option.some.inj hf
    subst h1
    exact retPI C rfl dX1_measure_42
  have hf := if_n hf c_6
  refine lv_tableOut (tgt := 43) hx hb dX1_measure_1 (by have qc_4 := lv_neT c_4 (a := 0) (by decide); have qc_5 := lv_neT c_5 (a := 1) (by decide); have qc_6 := lv_neT c_6 (a := 2) (by decide); omega) (by decide) ?_
  refine lv_aload_n hx hb dX1_measure_43 rfl (lv_at hl 0 rfl) ?_
  refine gf_RX1_22 C hE hH 0 rfl rfl dX1_measure_44 ?_
  have h1 := Option.some.inj hf
  subst h1
  exact retPI C rfl dX1_measure_47
def fX1_putMeasure_c64  (L : M2) : Option (M2) := some L
def fX1_putMeasure (x1 : Int32) (x2 : Int32) (L : M2) : Option (M2) := (if x1 = 0 then letb (st2 L 0 (upd (L 0) 1 x2)) (fun L_10 : M2 => fX1_putMeasure_c64  L_10) else (if x1 = 1 then letb (st2 L 0 (upd (L 0) 2 x2)) (fun L_12 : M2 => fX1_putMeasure_c64  L_12) else (if x1 = 2 then letb (st2 L 0 (upd (L 0) 3 x2)) (fun L_14 : M2 => fX1_putMeasure_c64  L_14) else (if x1 = 3 then letb (st2 L 0 (upd (L 0) 4 x2)) (fun L_16 : M2 => fX1_putMeasure_c64  L_16) else fX1_putMeasure_c64  L))))
def rmX1_putMeasure : Room := { frames := 0, cells := 0, slots := 0, locals := 0 }
theorem hdX1_putMeasure : yX1_putMeasure.cls = yX1_putMeasure.cls ∧ yX1_putMeasure.cls ≠ "java/lang/invoke/MethodHandle" ∧ yX1_putMeasure.cls ≠ "java/lang/invoke/VarHandle" ∧ (parseMethodDescriptor yX1_putMeasure.desc).map (fun d => d.parameters.length) = some 2 := by decide +kernel
set_option maxHeartbeats 4000000 in
set_option maxRecDepth 100000 in
theorem kX1_putMeasure (l : Launch) (g : Gl) (ad : Nat → Nat) (sz : Nat) (L : M2) (x1 : Int32) (x2 : Int32) (L' : M2)  (hf : fX1_putMeasure x1 x2 L = some L') : MetV l yX1_putMeasure (Cond.code yX1_putMeasure cX1_putMeasure 3 none :: wsL_law) rmX1_putMeasure [.ref (ad 0), .int x1, .int x2] g (wL g ad L) sz (wL g ad L') := by
  refine openV (by decide +kernel) (Nat.le_of_ble_eq_true rfl) ?_
  intro p e s m args below meth c A C hE hA hH ls hl
  have hl : lv_has ls 3 [(0, .ref (ad 0)), (1, .int x1), (2, .int x2)] := hl
  have C : Cx p s m args meth c cX1_putMeasure 3 none RX1 := C
  obtain ⟨hx, hb, hml, hown, hT, hr, hlk⟩ := id C
  rw [fX1_putMeasure] at hf
  have j_64 : ∀ (L : M2) (H : Heap) (locs : List Loc) (ls : Array Slot), fX1_putMeasure_c64  L = some L' → Hp g A s H locs (wL g ad L) → lv_has ls 3 [] → W p l e rmX1_putMeasure s m args below meth c H locs 0 0 (QV g A below args s (wL g ad L')) (F0 m 64 ls []) := by
    intro L H locs  ls hf hH hl
    rw [fX1_putMeasure_c64] at hf
    have h1 := Option.some.inj hf
    subst h1
    exact retV C hH dX1_putMeasure_64
  refine lv_iload_n hx hb dX1_putMeasure_0 rfl (lv_at hl 1 rfl) ?_
  by_cases c_9 : x1 = 0
  · have hf := if_p hf c_9
    refine lv_tableIn (tgt := 32) hx hb dX1_putMeasure_1 (by rw [c_9]; decide) (by rw [c_9]; decide) (by rw [c_9]; rfl) (by decide) ?_
    refine lv_aload_n hx hb dX1_putMeasure_32 rfl (lv_at hl 0 rfl) ?_
    refine lv_iload_n hx hb dX1_putMeasure_33 rfl (lv_at hl 2 rfl) ?_
    refine pf_RX1_19 C hE hH 0 rfl rfl rfl (Nat.le_of_ble_eq_true rfl) (fun q : M2 => wL g ad q) (st2 L 0 (upd (L 0) 1 x2)) rfl dX1_putMeasure_34 (fun L_10 eL_10 H locs hH => ?_)
    have hf := letb_at hf L_10 eL_10
    refine lv_goto (tgt := 64) hx hb dX1_putMeasure_37 (by decide) ?_
    exact j_64 L_10 _ _ ls hf hH (lv_sub hl [] rfl)
  have hf := if_n hf c_9
  by_cases c_11 : x1 = 1
  · have hf := if_p hf c_11
    refine lv_tableIn (tgt := 40) hx hb dX1_putMeasure_1 (by rw [c_11]; decide) (by rw [c_11]; decide) (by rw [c_11]; rfl) (by decide) ?_
    refine lv_aload_n hx hb dX1_putMeasure_40 rfl (lv_at hl 0 rfl) ?_
    refine lv_iload_n hx hb dX1_putMeasure_41 rfl (lv_at hl 2 rfl) ?_
    refine pf_RX1_25 C hE hH 0 rfl rfl rfl (Nat.le_of_ble_eq_true rfl) (fun q : M2 => wL g ad q) (st2 L 0 (upd (L 0) 2 x2)) rfl dX1_putMeasure_42 (fun L_12 eL_12 H locs hH => ?_)
    have hf := letb_at hf L_12 eL_12
    refine lv_goto (tgt := 64) hx hb dX1_putMeasure_45 (by decide) ?_
    exact j_64 L_12 _ _ ls hf hH (lv_sub hl [] rfl)
  have hf := if_n hf c_11
  by_cases c_13 : x1 = 2
  · have hf := if_p hf c_13
    refine lv_tableIn (tgt := 48) hx hb dX1_putMeasure_1 (by rw [c_13]; decide) (by rw [c_13]; decide) (by rw [c_13]; rfl) (by decide) ?_
    refine lv_aload_n hx hb dX1_putMeasure_48 rfl (lv_at hl 0 rfl) ?_
    refine lv_iload_n hx hb dX1_putMeasure_49 rfl (lv_at hl 2 rfl) ?_
    refine pf_RX1_28 C hE hH 0 rfl rfl rfl (Nat.le_of_ble_eq_true rfl) (fun q : M2 => wL g ad q) (st2 L 0 (upd (L 0) 3 x2)) rfl dX1_putMeasure_50 (fun L_14 eL_14 H locs hH => ?_)
    have hf := letb_at hf L_14 eL_14
    refine lv_goto (tgt := 64) hx hb dX1_putMeasure_53 (by decide) ?_
    exact j_64 L_14 _ _ ls hf hH (lv_sub hl [] rfl)
  have hf := if_n hf c_13
  by_cases c_15 : x1 = 3
  · have hf := if_p hf c_15
    refine lv_tableIn (tgt := 56) hx hb dX1_putMeasure_1 (by rw [c_15]; decide) (by rw [c_15]; decide) (by rw [c_15]; rfl) (by decide) ?_
    refine lv_aload_n hx hb dX1_putMeasure_56 rfl (lv_at hl 0 rfl) ?_
    refine lv_iload_n hx hb dX1_putMeasure_57 rfl (lv_at hl 2 rfl) ?_
    refine pf_RX1_22 C hE hH 0 rfl rfl rfl (Nat.le_of_ble_eq_true rfl) (fun q : M2 => wL g ad q) (st2 L 0 (upd (L 0) 4 x2)) rfl dX1_putMeasure_58 (fun L_16 eL_16 H locs hH => ?_)
    have hf := letb_at hf L_16 eL_16
    refine lv_goto (tgt := 64) hx hb dX1_putMeasure_61 (by decide) ?_
    exact j_64 L_16 _ _ ls hf hH (lv_sub hl [] rfl)
  have hf := if_n hf c_15
  refine lv_tableOut (tgt := 64) hx hb dX1_putMeasure_1 (by have qc_9 := lv_neT c_9 (a := 0) (by decide); have qc_11 := lv_neT c_11 (a := 1) (by decide); have qc_13 := lv_neT c_13 (a := 2) (by decide); have qc_15 := lv_neT c_15 (a := 3) (by decide); omega) (by decide) ?_
  exact j_64 L _ _ ls hf hH (lv_sub hl [] rfl)
def fX1_seaOn (x1 : Int32) (L : M2) : Option (Int32) := (fJ9_floorMod_7cf53 x1 (28 : Int32)).bind (fun (r_4 : Int32) => grd (inb r_4 28) (some (L 1 r_4.toNatClampNeg)))
def rmX1_seaOn : Room := { frames := 1, cells := 0, slots := 0, locals := 22 }
theorem hdX1_seaOn : yX1_seaOn.cls = yX1_seaOn.cls ∧ yX1_seaOn.cls ≠ "java/lang/invoke/MethodHandle" ∧ yX1_seaOn.cls ≠ "java/lang/invoke/VarHandle" ∧ (parseMethodDescriptor yX1_seaOn.desc).map (fun d => d.parameters.length) = some 1 := by decide +kernel
set_option maxHeartbeats 4000000 in
set_option maxRecDepth 100000 in
theorem kX1_seaOn (l : Launch) (g : Gl) (ad : Nat → Nat) (sz : Nat) (L : M2) (x1 : Int32) (r : Int32)  (hf : fX1_seaOn x1 L = some r) : MetPI l yX1_seaOn (Cond.code yX1_seaOn cX1_seaOn 2 (some .int) :: wsL_law) rmX1_seaOn [.ref (ad 0), .int x1] g (wL g ad L) sz r := by
  refine openPI (by decide +kernel) (Nat.le_of_ble_eq_true rfl) ?_
  intro p e s m args below meth c A C hE hA hH ls hl
  have hl : lv_has ls 2 [(0, .ref (ad 0)), (1, .int x1)] := hl
  have C : Cx p s m args meth c cX1_seaOn 2 (some .int) RX1 := C
  obtain ⟨hx, hb, hml, hown, hT, hr, hlk⟩ := id C
  rw [fX1_seaOn] at hf
  refine lv_aload_n hx hb dX1_seaOn_0 rfl (lv_at hl 0 rfl) ?_
  refine gf_RX1_9 C hE hH 0 rfl rfl dX1_seaOn_1 ?_
  refine lv_iload_n hx hb dX1_seaOn_4 rfl (lv_at hl 1 rfl) ?_
  refine lv_bipush (v := 28) hx hb dX1_seaOn_5 (by decide) ?_
  obtain ⟨r_4, hc_5, hf⟩ := bind_inv hf
  refine aftPI (runS C hE hA hH [] rfl rfl (kJ9_floorMod_7cf53 l g ad _ x1 (28 : Int32) r_4  hc_5) tw_5_21 tw_5_22 tw_5_23 tw_6_0 hdJ9_floorMod_7cf53 rfl rfl ⟨Nat.le_of_ble_eq_true rfl, Nat.le_of_ble_eq_true rfl⟩ rfl hl.1 (rest := [.ref (ad 1)]) rfl (Nat.le_of_ble_eq_true rfl) dX1_seaOn_7 ⟨Nat.zero_le _, Nat.zero_le _⟩) ?_
  obtain ⟨hi_6, hf⟩ := grd_inv hf
  refine xiald C hE hH 1 rfl hi_6 dX1_seaOn_10 ?_
  have h1 := Option.some.inj hf
  subst h1
  exact retPI C rfl dX1_seaOn_11
def fX1_hasGaleOn_c17  (z0 : Int32) (L : M2) : Option (Int32) := grd (isB z0) (some z0)
def fX1_hasGaleOn (x1 : Int32) (L : M2) : Option (Int32) := (fX1_seaOn x1 L).bind (fun (r_4 : Int32) => (if r_4 < (L 0 1) then fX1_hasGaleOn_c17  (0 : Int32) L else fX1_hasGaleOn_c17  (1 : Int32) L))
def rmX1_hasGaleOn : Room := { frames := 2, cells := 0, slots := 0, locals := 43 }
theorem hdX1_hasGaleOn : yX1_hasGaleOn.cls = yX1_hasGaleOn.cls ∧ yX1_hasGaleOn.cls ≠ "java/lang/invoke/MethodHandle" ∧ yX1_hasGaleOn.cls ≠ "java/lang/invoke/VarHandle" ∧ (parseMethodDescriptor yX1_hasGaleOn.desc).map (fun d => d.parameters.length) = some 1 := by decide +kernel
set_option maxHeartbeats 4000000 in
set_option maxRecDepth 100000 in
theorem kX1_hasGaleOn (l : Launch) (g : Gl) (ad : Nat → Nat) (sz : Nat) (L : M2) (x1 : Int32) (r : Int32)  (hf : fX1_hasGaleOn x1 L = some r) : MetPI l yX1_hasGaleOn (Cond.code yX1_hasGaleOn cX1_hasGaleOn 2 (some .boolean) :: wsL_law) rmX1_hasGaleOn [.ref (ad 0), .int x1] g (wL g ad L) sz r := by
  refine openPI (by decide +kernel) (Nat.le_of_ble_eq_true rfl) ?_
  intro p e s m args below meth c A C hE hA hH ls hl
  have hl : lv_has ls 2 [(0, .ref (ad 0)), (1, .int x1)] := hl
  have C : Cx p s m args meth c cX1_hasGaleOn 2 (some .boolean) RX1 := C
  obtain ⟨hx, hb, hml, hown, hT, hr, hlk⟩ := id C
  rw [fX1_hasGaleOn] at hf
  have j_17 : ∀ (z0 : Int32) (ls : Array Slot), fX1_hasGaleOn_c17  z0 L = some r → lv_has ls 2 [] → W p l e rmX1_hasGaleOn s m args below meth c s.heap [] 0 0 (QPI below args s r) (F0 m 17 ls [.int z0]) := by
    intro z0  ls hf hl
    rw [fX1_hasGaleOn_c17] at hf
    obtain ⟨hz, hf⟩ := grd_inv hf
    have h1 := Option.some.inj hf
    subst h1
    exact retPI C (isB_nar hz) dX1_hasGaleOn_17
  refine lv_aload_n hx hb dX1_hasGaleOn_0 rfl (lv_at hl 0 rfl) ?_
  refine lv_iload_n hx hb dX1_hasGaleOn_1 rfl (lv_at hl 1 rfl) ?_
  obtain ⟨r_4, hc_5, hf⟩ := bind_inv hf
  refine aftPI (runV C hE hA hH [0, 1, 2, 3, 4, 5, 6] nC_L_L_0_6 (sC_L_L_0_6 g ad L) (kX1_seaOn l g ad _ L x1 r_4  hc_5) tw_6_5 tw_5_18 tw_5_19 tw_1_15 tw_5_20 hdX1_seaOn 0 rfl rfl rfl rfl ⟨Nat.le_of_ble_eq_true rfl, Nat.le_of_ble_eq_true rfl⟩ rfl hl.1 (rest := []) rfl (Nat.le_of_ble_eq_true rfl) dX1_hasGaleOn_2 ⟨Nat.zero_le _, Nat.zero_le _⟩) ?_
  refine lv_aload_n hx hb dX1_hasGaleOn_5 rfl (lv_at hl 0 rfl) ?_
  refine gf_RX1_19 C hE hH 0 rfl rfl dX1_hasGaleOn_6 ?_
  refine lv_icmp_lt (tgt := 16) hx hb dX1_hasGaleOn_9 (by decide) (fun c_6 => ?_) (fun c_6 => ?_)
  · have hf := if_p hf c_6
    refine lv_iconst (v := 0) hx hb dX1_hasGaleOn_16 (by decide) ?_
    exact j_17 (0 : Int32) ls hf (lv_sub hl [] rfl)
  · have hf := if_n hf c_6
    refine lv_iconst (v := 1) hx hb dX1_hasGaleOn_12 (by decide) ?_
    refine lv_goto (tgt := 17) hx hb dX1_hasGaleOn_13 (by decide) ?_
    exact j_17 (1 : Int32) ls hf (lv_sub hl [] rfl)
def fX1_secondsOn_c26  (z0 : Int32) (L : M2) : Option (Int32) := some z0
def fX1_secondsOn (x1 : Int32) (L : M2) : Option (Int32) := (fX1_seaOn x1 L).bind (fun (r_4 : Int32) => (if r_4 < (L 0 1) then fX1_secondsOn_c26  (0 : Int32) L else fX1_secondsOn_c26  ((r_4 - (L 0 1)) + (1 : Int32)) L))
def rmX1_secondsOn : Room := { frames := 2, cells := 0, slots := 0, locals := 43 }
theorem hdX1_secondsOn : yX1_secondsOn.cls = yX1_secondsOn.cls ∧ yX1_secondsOn.cls ≠ "java/lang/invoke/MethodHandle" ∧ yX1_secondsOn.cls ≠ "java/lang/invoke/VarHandle" ∧ (parseMethodDescriptor yX1_secondsOn.desc).map (fun d => d.parameters.length) = some 1 := by decide +kernel
set_option maxHeartbeats 4000000 in
set_option maxRecDepth 100000 in
theorem kX1_secondsOn (l : Launch) (g : Gl) (ad : Nat → Nat) (sz : Nat) (L : M2) (x1 : Int32) (r : Int32)  (hf : fX1_secondsOn x1 L = some r) : MetPI l yX1_secondsOn (Cond.code yX1_secondsOn cX1_secondsOn 3 (some .int) :: wsL_law) rmX1_secondsOn [.ref (ad 0), .int x1] g (wL g ad L) sz r := by
  refine openPI (by decide +kernel) (Nat.le_of_ble_eq_true rfl) ?_
  intro p e s m args below meth c A C hE hA hH ls hl
  have hl : lv_has ls 3 [(0, .ref (ad 0)), (1, .int x1)] := hl
  have C : Cx p s m args meth c cX1_secondsOn 3 (some .int) RX1 := C
  obtain ⟨hx, hb, hml, hown, hT, hr, hlk⟩ := id C
  rw [fX1_secondsOn] at hf
  have j_26 : ∀ (z0 : Int32) (ls : Array Slot), fX1_secondsOn_c26  z0 L = some r → lv_has ls 3 [] → W p l e rmX1_secondsOn s m args below meth c s.heap [] 0 0 (QPI below args s r) (F0 m 26 ls [.int z0]) := by
    intro z0  ls hf hl
    rw [fX1_secondsOn_c26] at hf
    have h1 := Option.some.inj hf
    subst h1
    exact retPI C rfl dX1_secondsOn_26
  refine lv_aload_n hx hb dX1_secondsOn_0 rfl (lv_at hl 0 rfl) ?_
  refine lv_iload_n hx hb dX1_secondsOn_1 rfl (lv_at hl 1 rfl) ?_
  obtain ⟨r_4, hc_5, hf⟩ := bind_inv hf
  refine aftPI (runV C hE hA hH [0, 1, 2, 3, 4, 5, 6] nC_L_L_0_6 (sC_L_L_0_6 g ad L) (kX1_seaOn l g ad _ L x1 r_4  hc_5) tw_6_5 tw_5_18 tw_5_19 tw_1_15 tw_5_20 hdX1_seaOn 0 rfl rfl rfl rfl ⟨Nat.le_of_ble_eq_true rfl, Nat.le_of_ble_eq_true rfl⟩ rfl hl.1 (rest := []) rfl (Nat.le_of_ble_eq_true rfl) dX1_secondsOn_2 ⟨Nat.zero_le _, Nat.zero_le _⟩) ?_
  refine lv_istore_n (lv' := [(2, .int r_4), (0, .ref (ad 0)), (1, .int x1)]) hx hb dX1_secondsOn_5 rfl hl (by decide) rfl (fun ls hl => ?_)
  refine lv_iload_n hx hb dX1_secondsOn_6 rfl (lv_at hl 0 rfl) ?_
  refine lv_aload_n hx hb dX1_secondsOn_7 rfl (lv_at hl 1 rfl) ?_
  refine gf_RX1_19 C hE hH 0 rfl rfl dX1_secondsOn_8 ?_
  refine lv_icmp_lt (tgt := 25) hx hb dX1_secondsOn_11 (by decide) (fun c_6 => ?_) (fun c_6 => ?_)
  · have hf := if_p hf c_6
    refine lv_iconst (v := 0) hx hb dX1_secondsOn_25 (by decide) ?_
    exact j_26 (0 : Int32) ls hf (lv_sub hl [] rfl)
  · have hf := if_n hf c_6
    refine lv_iload_n hx hb dX1_secondsOn_14 rfl (lv_at hl 0 rfl) ?_
    refine lv_aload_n hx hb dX1_secondsOn_15 rfl (lv_at hl 1 rfl) ?_
    refine gf_RX1_19 C hE hH 0 rfl rfl dX1_secondsOn_16 ?_
    refine lv_isub hx hb dX1_secondsOn_19 ?_
    refine lv_iconst (v := 1) hx hb dX1_secondsOn_20 (by decide) ?_
    refine lv_iadd hx hb dX1_secondsOn_21 ?_
    refine lv_goto (tgt := 26) hx hb dX1_secondsOn_22 (by decide) ?_
    exact j_26 ((r_4 - (L 0 1)) + (1 : Int32)) ls hf (lv_sub hl [] rfl)
def fX1_countGaleDays_c27  (y1 : Int32) (L : M2) : Option (Int32) := some y1
def fX1_countGaleDays_c21 (k_4 : Int32 → Int32 → M2 → Option (Int32)) (y1 : Int32) (y2 : Int32) (L : M2) : Option (Int32) := letb (y2 + (1 : Int32)) (fun v_7 : Int32 => k_4 y1 v_7 L)
def fX1_countGaleDays_c4  : Nat → Int32 → Int32 → M2 → Option (Int32)
  | 0, _, _, _ => none
  | n + 1, y1, y2, L => (if (28 : Int32) ≤ y2 then fX1_countGaleDays_c27  y1 L else (fX1_hasGaleOn y2 L).bind (fun (r_9 : Int32) => (if r_9 = 0 then fX1_countGaleDays_c21 (fX1_countGaleDays_c4 n) y1 y2 L else letb (y1 + (1 : Int32)) (fun v_12 : Int32 => fX1_countGaleDays_c21 (fX1_countGaleDays_c4 n) v_12 y2 L))))
def fX1_countGaleDays (L : M2) : Option (Int32) := fX1_countGaleDays_c4  FU (0 : Int32) (0 : Int32) L
def rmX1_countGaleDays : Room := { frames := 3, cells := 0, slots := 0, locals := 64 }
theorem hdX1_countGaleDays : yX1_countGaleDays.cls = yX1_countGaleDays.cls ∧ yX1_countGaleDays.cls ≠ "java/lang/invoke/MethodHandle" ∧ yX1_countGaleDays.cls ≠ "java/lang/invoke/VarHandle" ∧ (parseMethodDescriptor yX1_countGaleDays.desc).map (fun d => d.parameters.length) = some 0 := by decide +kernel
set_option maxHeartbeats 4000000 in
set_option maxRecDepth 100000 in
theorem kX1_countGaleDays (l : Launch) (g : Gl) (ad : Nat → Nat) (sz : Nat) (L : M2)  (r : Int32)  (hf : fX1_countGaleDays L = some r) : MetPI l yX1_countGaleDays (Cond.code yX1_countGaleDays cX1_countGaleDays 3 (some .int) :: wsL_law) rmX1_countGaleDays [.ref (ad 0)] g (wL g ad L) sz r := by
  refine openPI (by decide +kernel) (Nat.le_of_ble_eq_true rfl) ?_
  intro p e s m args below meth c A C hE hA hH ls hl
  have hl : lv_has ls 3 [(0, .ref (ad 0))] := hl
  have C : Cx p s m args meth c cX1_countGaleDays 3 (some .int) RX1 := C
  obtain ⟨hx, hb, hml, hown, hT, hr, hlk⟩ := id C
  rw [fX1_countGaleDays] at hf
  have lp_4 : ∀ (n_4 : Nat) (y1 : Int32) (y2 : Int32) (ls : Array Slot), fX1_countGaleDays_c4  n_4 y1 y2 L = some r → lv_has ls 3 [(0, .ref (ad 0)), (1, .int y1), (2, .int y2)] → W p l e rmX1_countGaleDays s m args below meth c s.heap [] 0 0 (QPI below args s r) (F0 m 4 ls []) := by
    intro n_4
    induction n_4 with
    | zero =>
      intro y1 y2  ls hf hl
      rw [fX1_countGaleDays_c4] at hf
      cases hf
    | succ n_4 ih_4 =>
      intro y1 y2  ls hf hl
      rw [fX1_countGaleDays_c4] at hf
      have j_27 : ∀ (y1 : Int32) (ls : Array Slot), fX1_countGaleDays_c27  y1 L = some r → lv_has ls 3 [(1, .int y1)] → W p l e rmX1_countGaleDays s m args below meth c s.heap [] 0 0 (QPI below args s r) (F0 m 27 ls []) := by
        intro y1  ls hf hl
        rw [fX1_countGaleDays_c27] at hf
        refine lv_iload_n hx hb dX1_countGaleDays_27 rfl (lv_at hl 0 rfl) ?_
        have h1 := Option.some.inj hf
        subst h1
        exact retPI C rfl dX1_countGaleDays_28
      have j_21 : ∀ (y1 : Int32) (y2 : Int32) (ls : Array Slot), fX1_countGaleDays_c21 (fX1_countGaleDays_c4 n_4) y1 y2 L = some r → lv_has ls 3 [(0, .ref (ad 0)), (1, .int y1), (2, .int y2)] → W p l e rmX1_countGaleDays s m args below meth c s.heap [] 0 0 (QPI below args s r) (F0 m 21 ls []) := by
        intro y1 y2  ls hf hl
        rw [fX1_countGaleDays_c21] at hf
        obtain ⟨v_7, ev_7⟩ : ∃ z : Int32, z = y2 + (1 : Int32) := ⟨_, rfl⟩
        have hf := letb_at hf v_7 ev_7
        refine lv_iinc (v := v_7) (lv' := [(2, .int v_7), (0, .ref (ad 0)), (1, .int y1)]) hx hb dX1_countGaleDays_21 hl (k := 2) rfl (by rw [ev_7]; rfl) (by decide) rfl (fun ls hl => ?_)
        refine lv_goto (tgt := 4) hx hb dX1_countGaleDays_24 (by decide) ?_
        exact ih_4 y1 v_7 ls hf (lv_sub hl [1, 2, 0] rfl)
      refine lv_iload_n hx hb dX1_countGaleDays_4 rfl (lv_at hl 2 rfl) ?_
      refine lv_bipush (v := 28) hx hb dX1_countGaleDays_5 (by decide) ?_
      refine lv_icmp_ge (tgt := 27) hx hb dX1_countGaleDays_7 (by decide) (fun c_8 => ?_) (fun c_8 => ?_)
      · have hf := if_p hf c_8
        exact j_27 y1 ls hf (lv_sub hl [1] rfl)
      · have hf := if_n hf c_8
        refine lv_aload_n hx hb dX1_countGaleDays_10 rfl (lv_at hl 0 rfl) ?_
        refine lv_iload_n hx hb dX1_countGaleDays_11 rfl (lv_at hl 2 rfl) ?_
        obtain ⟨r_9, hc_10, hf⟩ := bind_inv hf
        refine aftPI (runV C hE hA hH [0, 1, 2, 3, 4, 5, 6] nC_L_L_0_6 (sC_L_L_0_6 g ad L) (kX1_hasGaleOn l g ad _ L y2 r_9  hc_10) tw_20_3 tw_6_2 tw_6_3 tw_1_15 tw_6_4 hdX1_hasGaleOn 0 rfl rfl rfl rfl ⟨Nat.le_of_ble_eq_true rfl, Nat.le_of_ble_eq_true rfl⟩ rfl hl.1 (rest := []) rfl (Nat.le_of_ble_eq_true rfl) dX1_countGaleDays_12 ⟨Nat.zero_le _, Nat.zero_le _⟩) ?_
        refine lv_if_eq (tgt := 21) hx hb dX1_countGaleDays_15 (by decide) (fun c_11 => ?_) (fun c_11 => ?_)
        · have hf := if_p hf c_11
          exact j_21 y1 y2 ls hf (lv_sub hl [0, 1, 2] rfl)
        · have hf := if_n hf c_11
          obtain ⟨v_12, ev_12⟩ : ∃ z : Int32, z = y1 + (1 : Int32) := ⟨_, rfl⟩
          have hf := letb_at hf v_12 ev_12
          refine lv_iinc (v := v_12) (lv' := [(1, .int v_12), (0, .ref (ad 0)), (2, .int y2)]) hx hb dX1_countGaleDays_18 hl (k := 1) rfl (by rw [ev_12]; rfl) (by decide) rfl (fun ls hl => ?_)
          exact j_21 v_12 y2 ls hf (lv_sub hl [1, 0, 2] rfl)
  refine lv_iconst (v := 0) hx hb dX1_countGaleDays_0 (by decide) ?_
  refine lv_istore_n (lv' := [(1, .int (0 : Int32)), (0, .ref (ad 0))]) hx hb dX1_countGaleDays_1 rfl hl (by decide) rfl (fun ls hl => ?_)
  refine lv_iconst (v := 0) hx hb dX1_countGaleDays_2 (by decide) ?_
  refine lv_istore_n (lv' := [(2, .int (0 : Int32)), (1, .int (0 : Int32)), (0, .ref (ad 0))]) hx hb dX1_countGaleDays_3 rfl hl (by decide) rfl (fun ls hl => ?_)
  exact lp_4 _ (0 : Int32) (0 : Int32) ls hf (lv_sub hl [2, 1, 0] rfl)
def fX1_isFull_c14  (z0 : Int32) (L : M2) : Option (Int32) := grd (isB z0) (some z0)
def fX1_isFull (L : M2) : Option (Int32) := (if (L 0 6) < (8 : Int32) then fX1_isFull_c14  (0 : Int32) L else fX1_isFull_c14  (1 : Int32) L)
def rmX1_isFull : Room := { frames := 0, cells := 0, slots := 0, locals := 0 }
theorem hdX1_isFull : yX1_isFull.cls = yX1_isFull.cls ∧ yX1_isFull.cls ≠ "java/lang/invoke/MethodHandle" ∧ yX1_isFull.cls ≠ "java/lang/invoke/VarHandle" ∧ (parseMethodDescriptor yX1_isFull.desc).map (fun d => d.parameters.length) = some 0 := by decide +kernel
set_option maxHeartbeats 4000000 in
set_option maxRecDepth 100000 in
theorem kX1_isFull (l : Launch) (g : Gl) (ad : Nat → Nat) (sz : Nat) (L : M2)  (r : Int32)  (hf : fX1_isFull L = some r) : MetPI l yX1_isFull (Cond.code yX1_isFull cX1_isFull 1 (some .boolean) :: wsL_law) rmX1_isFull [.ref (ad 0)] g (wL g ad L) sz r := by
  refine openPI (by decide +kernel) (Nat.le_of_ble_eq_true rfl) ?_
  intro p e s m args below meth c A C hE hA hH ls hl
  have hl : lv_has ls 1 [(0, .ref (ad 0))] := hl
  have C : Cx p s m args meth c cX1_isFull 1 (some .boolean) RX1 := C
  obtain ⟨hx, hb, hml, hown, hT, hr, hlk⟩ := id C
  rw [fX1_isFull] at hf
  have j_14 : ∀ (z0 : Int32) (ls : Array Slot), fX1_isFull_c14  z0 L = some r → lv_has ls 1 [] → W p l e rmX1_isFull s m args below meth c s.heap [] 0 0 (QPI below args s r) (F0 m 14 ls [.int z0]) := by
    intro z0  ls hf hl
    rw [fX1_isFull_c14] at hf
    obtain ⟨hz, hf⟩ := grd_inv hf
    have h1 := Option.some.inj hf
    subst h1
    exact retPI C (isB_nar hz) dX1_isFull_14
  refine lv_aload_n hx hb dX1_isFull_0 rfl (lv_at hl 0 rfl) ?_
  refine gf_RX1_34 C hE hH 0 rfl rfl dX1_isFull_1 ?_
  refine lv_bipush (v := 8) hx hb dX1_isFull_4 (by decide) ?_
  refine lv_icmp_lt (tgt := 13) hx hb dX1_isFull_6 (by decide) (fun c_2 => ?_) (fun c_2 => ?_)
  · have hf := if_p hf c_2
    refine lv_iconst (v := 0) hx hb dX1_isFull_13 (by decide) ?_
    exact j_14 (0 : Int32) ls hf (lv_sub hl [] rfl)
  · have hf := if_n hf c_2
    refine lv_iconst (v := 1) hx hb dX1_isFull_9 (by decide) ?_
    refine lv_goto (tgt := 14) hx hb dX1_isFull_10 (by decide) ?_
    exact j_14 (1 : Int32) ls hf (lv_sub hl [] rfl)
def fX1_hasKeeper (x1 : Int32) (L : M2) : Option (Int32) := (fX5_within x1 (0 : Int32) ((L 0 6) - (1 : Int32))).bind (fun (r_3 : Int32) => grd (isB r_3) (some r_3))
def rmX1_hasKeeper : Room := { frames := 1, cells := 0, slots := 0, locals := 22 }
theorem hdX1_hasKeeper : yX1_hasKeeper.cls = yX1_hasKeeper.cls ∧ yX1_hasKeeper.cls ≠ "java/lang/invoke/MethodHandle" ∧ yX1_hasKeeper.cls ≠ "java/lang/invoke/VarHandle" ∧ (parseMethodDescriptor yX1_hasKeeper.desc).map (fun d => d.parameters.length) = some 1 := by decide +kernel
set_option maxHeartbeats 4000000 in
set_option maxRecDepth 100000 in
theorem kX1_hasKeeper (l : Launch) (g : Gl) (ad : Nat → Nat) (sz : Nat) (L : M2) (x1 : Int32) (r : Int32)  (hf : fX1_hasKeeper x1 L = some r) : MetPI l yX1_hasKeeper (Cond.code yX1_hasKeeper cX1_hasKeeper 2 (some .boolean) :: wsL_law) rmX1_hasKeeper [.ref (ad 0), .int x1] g (wL g ad L) sz r := by
  refine openPI (by decide +kernel) (Nat.le_of_ble_eq_true rfl) ?_
  intro p e s m args below meth c A C hE hA hH ls hl
  have hl : lv_has ls 2 [(0, .ref (ad 0)), (1, .int x1)] := hl
  have C : Cx p s m args meth c cX1_hasKeeper 2 (some .boolean) RX1 := C
  obtain ⟨hx, hb, hml, hown, hT, hr, hlk⟩ := id C
  rw [fX1_hasKeeper] at hf
  refine lv_iload_n hx hb dX1_hasKeeper_0 rfl (lv_at hl 1 rfl) ?_
  refine lv_iconst (v := 0) hx hb dX1_hasKeeper_1 (by decide) ?_
  refine lv_aload_n hx hb dX1_hasKeeper_2 rfl (lv_at hl 0 rfl) ?_
  refine gf_RX1_34 C hE hH 0 rfl rfl dX1_hasKeeper_3 ?_
  refine lv_iconst (v := 1) hx hb dX1_hasKeeper_6 (by decide) ?_
  refine lv_isub hx hb dX1_hasKeeper_7 ?_
  obtain ⟨r_3, hc_4, hf⟩ := bind_inv hf
  refine aftPI (runSN (host := RX5) C hE hA hH [] rfl rfl (kX5_within l g ad _ x1 (0 : Int32) ((L 0 6) - (1 : Int32)) r_3  hc_4) (hE.2.2.2.2.1) tw_4_15 tw_1_2 tw_4_16 hdX5_within rfl rfl ⟨Nat.le_of_ble_eq_true rfl, Nat.le_of_ble_eq_true rfl⟩ rfl hl.1 (rest := []) rfl (Nat.le_of_ble_eq_true rfl) dX1_hasKeeper_8 ⟨Nat.zero_le _, Nat.zero_le _⟩) ?_
  obtain ⟨hz, hf⟩ := grd_inv hf
  have h1 := Option.some.inj hf
  subst h1
  exact retPI C (isB_nar hz) dX1_hasKeeper_11
def fX1_addKeeper (x1 : Int32) (L : M2) : Option (Int32 × M2) := (fX1_isFull L).bind (fun (r_16 : Int32) => (if r_16 = 0 then letb (L 0 6) (fun v_19 : Int32 => grd (inb v_19 8) (letb (st2 L 2 (upd (L 2) v_19.toNatClampNeg x1)) (fun L_21 : M2 => grd (inb v_19 8) (letb (st2 L_21 3 (upd (L_21 3) v_19.toNatClampNeg (0 : Int32))) (fun L_23 : M2 => grd (inb v_19 8) (letb (st2 L_23 4 (upd (L_23 4) v_19.toNatClampNeg (L_23 0 0))) (fun L_25 : M2 => grd (inb v_19 8) (letb (st2 L_25 5 (upd (L_25 5) v_19.toNatClampNeg (0 : Int32))) (fun L_27 : M2 => grd (inb v_19 8) (letb (st2 L_27 6 (upd (L_27 6) v_19.toNatClampNeg (0 : Int32))) (fun L_29 : M2 => letb (st2 L_29 0 (upd (L_29 0) 6 ((L_29 0 6) + (1 : Int32)))) (fun L_30 : M2 => some (v_19, L_30))))))))))))) else some ((-1 : Int32), L)))
def rmX1_addKeeper : Room := { frames := 1, cells := 0, slots := 0, locals := 20 }
theorem hdX1_addKeeper : yX1_addKeeper.cls = yX1_addKeeper.cls ∧ yX1_addKeeper.cls ≠ "java/lang/invoke/MethodHandle" ∧ yX1_addKeeper.cls ≠ "java/lang/invoke/VarHandle" ∧ (parseMethodDescriptor yX1_addKeeper.desc).map (fun d => d.parameters.length) = some 1 := by decide +kernel
set_option maxHeartbeats 4000000 in
set_option maxRecDepth 100000 in
theorem kX1_addKeeper (l : Launch) (g : Gl) (ad : Nat → Nat) (sz : Nat) (L : M2) (x1 : Int32) (r : Int32) (L' : M2)  (hf : fX1_addKeeper x1 L = some (r, L')) : MetI l yX1_addKeeper (Cond.code yX1_addKeeper cX1_addKeeper 3 (some .int) :: wsL_law) rmX1_addKeeper [.ref (ad 0), .int x1] g (wL g ad L) sz r (wL g ad L') := by
  refine openI (by decide +kernel) (Nat.le_of_ble_eq_true rfl) ?_
  intro p e s m args below meth c A C hE hA hH ls hl
  have hl : lv_has ls 3 [(0, .ref (ad 0)), (1, .int x1)] := hl
  have C : Cx p s m args meth c cX1_addKeeper 3 (some .int) RX1 := C
  obtain ⟨hx, hb, hml, hown, hT, hr, hlk⟩ := id C
  rw [fX1_addKeeper] at hf
  refine lv_aload_n hx hb dX1_addKeeper_0 rfl (lv_at hl 0 rfl) ?_
  obtain ⟨r_16, hc_17, hf⟩ := bind_inv hf
  refine aftPI (runV C hE hA hH [0, 1, 2, 3, 4, 5, 6] nC_L_L_0_6 (sC_L_L_0_6 g ad L) (kX1_isFull l g ad _ L r_16  hc_17) tw_8_4 tw_7_21 tw_7_22 tw_1_15 tw_7_23 hdX1_isFull 0 rfl rfl rfl rfl ⟨Nat.le_of_ble_eq_true rfl, Nat.le_of_ble_eq_true rfl⟩ rfl hl.1 (rest := []) rfl (Nat.le_of_ble_eq_true rfl) dX1_addKeeper_1 ⟨Nat.zero_le _, Nat.zero_le _⟩) ?_
  refine lv_if_eq (tgt := 9) hx hb dX1_addKeeper_4 (by decide) (fun c_18 => ?_) (fun c_18 => ?_)
  · have hf := if_p hf c_18
    refine lv_aload_n hx hb dX1_addKeeper_9 rfl (lv_at hl 0 rfl) ?_
    refine gf_RX1_34 C hE hH 0 rfl rfl dX1_addKeeper_10 ?_
    refine lv_topi (fun v_19 ev_19 => ?_)
    have hf := letb_at hf v_19 ev_19
    refine lv_istore_n (lv' := [(2, .int v_19), (0, .ref (ad 0)), (1, .int x1)]) hx hb dX1_addKeeper_13 rfl hl (by decide) rfl (fun ls hl => ?_)
    refine lv_aload_n hx hb dX1_addKeeper_14 rfl (lv_at hl 1 rfl) ?_
    refine gf_RX1_37 C hE hH 0 rfl rfl dX1_addKeeper_15 ?_
    refine lv_iload_n hx hb dX1_addKeeper_18 rfl (lv_at hl 0 rfl) ?_
    refine lv_iload_n hx hb dX1_addKeeper_19 rfl (lv_at hl 2 rfl) ?_
    obtain ⟨hi_20, hf⟩ := grd_inv hf
    refine xiast C hE hH 2 rfl hi_20 (fun q : M2 => wL g ad q) (st2 L 2 (upd (L 2) v_19.toNatClampNeg x1)) rfl dX1_addKeeper_20 (fun L_21 eL_21 H locs hH => ?_)
    have hf := letb_at hf L_21 eL_21
    refine lv_aload_n hx hb dX1_addKeeper_21 rfl (lv_at hl 1 rfl) ?_
    refine gf_RX1_40 C hE hH 0 rfl rfl dX1_addKeeper_22 ?_
    refine lv_iload_n hx hb dX1_addKeeper_25 rfl (lv_at hl 0 rfl) ?_
    refine lv_iconst (v := 0) hx hb dX1_addKeeper_26 (by decide) ?_
    obtain ⟨hi_22, hf⟩ := grd_inv hf
    refine xiast C hE hH 3 rfl hi_22 (fun q : M2 => wL g ad q) (st2 L_21 3 (upd (L_21 3) v_19.toNatClampNeg (0 : Int32))) rfl dX1_addKeeper_27 (fun L_23 eL_23 H locs hH => ?_)
    have hf := letb_at hf L_23 eL_23
    refine lv_aload_n hx hb dX1_addKeeper_28 rfl (lv_at hl 1 rfl) ?_
    refine gf_RX1_43 C hE hH 0 rfl rfl dX1_addKeeper_29 ?_
    refine lv_iload_n hx hb dX1_addKeeper_32 rfl (lv_at hl 0 rfl) ?_
    refine lv_aload_n hx hb dX1_addKeeper_33 rfl (lv_at hl 1 rfl) ?_
    refine gf_RX1_15 C hE hH 0 rfl rfl dX1_addKeeper_34 ?_
    obtain ⟨hi_24, hf⟩ := grd_inv hf
    refine xiast C hE hH 4 rfl hi_24 (fun q : M2 => wL g ad q) (st2 L_23 4 (upd (L_23 4) v_19.toNatClampNeg (L_23 0 0))) rfl dX1_addKeeper_37 (fun L_25 eL_25 H locs hH => ?_)
    have hf := letb_at hf L_25 eL_25
    refine lv_aload_n hx hb dX1_addKeeper_38 rfl (lv_at hl 1 rfl) ?_
    refine gf_RX1_46 C hE hH 0 rfl rfl dX1_addKeeper_39 ?_
    refine lv_iload_n hx hb dX1_addKeeper_42 rfl (lv_at hl 0 rfl) ?_
    refine lv_iconst (v := 0) hx hb dX1_addKeeper_43 (by decide) ?_
    obtain ⟨hi_26, hf⟩ := grd_inv hf
    refine xiast C hE hH 5 rfl hi_26 (fun q : M2 => wL g ad q) (st2 L_25 5 (upd (L_25 5) v_19.toNatClampNeg (0 : Int32))) rfl dX1_addKeeper_44 (fun L_27 eL_27 H locs hH => ?_)
    have hf := letb_at hf L_27 eL_27
    refine lv_aload_n hx hb dX1_addKeeper_45 rfl (lv_at hl 1 rfl) ?_
    refine gf_RX1_49 C hE hH 0 rfl rfl dX1_addKeeper_46 ?_
    refine lv_iload_n hx hb dX1_addKeeper_49 rfl (lv_at hl 0 rfl) ?_
    refine lv_iconst (v := 0) hx hb dX1_addKeeper_50 (by decide) ?_
    obtain ⟨hi_28, hf⟩ := grd_inv hf
    refine xiast C hE hH 6 rfl hi_28 (fun q : M2 => wL g ad q) (st2 L_27 6 (upd (L_27 6) v_19.toNatClampNeg (0 : Int32))) rfl dX1_addKeeper_51 (fun L_29 eL_29 H locs hH => ?_)
    have hf := letb_at hf L_29 eL_29
    refine lv_aload_n hx hb dX1_addKeeper_52 rfl (lv_at hl 1 rfl) ?_
    refine lv_dup hx hb dX1_addKeeper_53 rfl ?_
    refine gf_RX1_34 C hE hH 0 rfl rfl dX1_addKeeper_54 ?_
    refine lv_iconst (v := 1) hx hb dX1_addKeeper_57 (by decide) ?_
    refine lv_iadd hx hb dX1_addKeeper_58 ?_
    refine pf_RX1_34 C hE hH 0 rfl rfl rfl (Nat.le_of_ble_eq_true rfl) (fun q : M2 => wL g ad q) (st2 L_29 0 (upd (L_29 0) 6 ((L_29 0 6) + (1 : Int32)))) rfl dX1_addKeeper_59 (fun L_30 eL_30 H locs hH => ?_)
    have hf := letb_at hf L_30 eL_30
    refine lv_iload_n hx hb dX1_addKeeper_62 rfl (lv_at hl 0 rfl) ?_
    have hf := Option.some.inj hf
    obtain ⟨h1, h2⟩ := Prod.mk.inj hf
    subst h1
    subst h2
    exact retI C hH rfl dX1_addKeeper_63
  · have hf := if_n hf c_18
    refine lv_iconst (v := (-1)) hx hb dX1_addKeeper_7 (by decide) ?_
    have hf := Option.some.inj hf
    obtain ⟨h1, h2⟩ := Prod.mk.inj hf
    subst h1
    subst h2
    exact retI C hH rfl dX1_addKeeper_8
def fX1_putStand (x1 : Int32) (x2 : Int32) (L : M2) : Option (Int32 × M2) := grd (inb x1 8) (letb (L 3 x1.toNatClampNeg) (fun v_8 : Int32 => grd (inb x1 8) (letb (st2 L 3 (upd (L 3) x1.toNatClampNeg x2)) (fun L_10 : M2 => grd (inb x1 8) (letb (st2 L_10 4 (upd (L_10 4) x1.toNatClampNeg (L_10 0 0))) (fun L_12 : M2 => some (v_8, L_12)))))))
def rmX1_putStand : Room := { frames := 0, cells := 0, slots := 0, locals := 0 }
theorem hdX1_putStand : yX1_putStand.cls = yX1_putStand.cls ∧ yX1_putStand.cls ≠ "java/lang/invoke/MethodHandle" ∧ yX1_putStand.cls ≠ "java/lang/invoke/VarHandle" ∧ (parseMethodDescriptor yX1_putStand.desc).map (fun d => d.parameters.length) = some 2 := by decide +kernel
set_option maxHeartbeats 4000000 in
set_option maxRecDepth 100000 in
theorem kX1_putStand (l : Launch) (g : Gl) (ad : Nat → Nat) (sz : Nat) (L : M2) (x1 : Int32) (x2 : Int32) (r : Int32) (L' : M2)  (hf : fX1_putStand x1 x2 L = some (r, L')) : MetI l yX1_putStand (Cond.code yX1_putStand cX1_putStand 4 (some .int) :: wsL_law) rmX1_putStand [.ref (ad 0), .int x1, .int x2] g (wL g ad L) sz r (wL g ad L') := by
  refine openI (by decide +kernel) (Nat.le_of_ble_eq_true rfl) ?_
  intro p e s m args below meth c A C hE hA hH ls hl
  have hl : lv_has ls 4 [(0, .ref (ad 0)), (1, .int x1), (2, .int x2)] := hl
  have C : Cx p s m args meth c cX1_putStand 4 (some .int) RX1 := C
  obtain ⟨hx, hb, hml, hown, hT, hr, hlk⟩ := id C
  rw [fX1_putStand] at hf
  refine lv_aload_n hx hb dX1_putStand_0 rfl (lv_at hl 0 rfl) ?_
  refine gf_RX1_40 C hE hH 0 rfl rfl dX1_putStand_1 ?_
  refine lv_iload_n hx hb dX1_putStand_4 rfl (lv_at hl 1 rfl) ?_
  obtain ⟨hi_7, hf⟩ := grd_inv hf
  refine xiald C hE hH 3 rfl hi_7 dX1_putStand_5 ?_
  refine lv_topi (fun v_8 ev_8 => ?_)
  have hf := letb_at hf v_8 ev_8
  refine lv_istore_n (lv' := [(3, .int v_8), (0, .ref (ad 0)), (1, .int x1), (2, .int x2)]) hx hb dX1_putStand_6 rfl hl (by decide) rfl (fun ls hl => ?_)
  refine lv_aload_n hx hb dX1_putStand_7 rfl (lv_at hl 1 rfl) ?_
  refine gf_RX1_40 C hE hH 0 rfl rfl dX1_putStand_8 ?_
  refine lv_iload_n hx hb dX1_putStand_11 rfl (lv_at hl 2 rfl) ?_
  refine lv_iload_n hx hb dX1_putStand_12 rfl (lv_at hl 3 rfl) ?_
  obtain ⟨hi_9, hf⟩ := grd_inv hf
  refine xiast C hE hH 3 rfl hi_9 (fun q : M2 => wL g ad q) (st2 L 3 (upd (L 3) x1.toNatClampNeg x2)) rfl dX1_putStand_13 (fun L_10 eL_10 H locs hH => ?_)
  have hf := letb_at hf L_10 eL_10
  refine lv_aload_n hx hb dX1_putStand_14 rfl (lv_at hl 1 rfl) ?_
  refine gf_RX1_43 C hE hH 0 rfl rfl dX1_putStand_15 ?_
  refine lv_iload_n hx hb dX1_putStand_18 rfl (lv_at hl 2 rfl) ?_
  refine lv_aload_n hx hb dX1_putStand_19 rfl (lv_at hl 1 rfl) ?_
  refine gf_RX1_15 C hE hH 0 rfl rfl dX1_putStand_20 ?_
  obtain ⟨hi_11, hf⟩ := grd_inv hf
  refine xiast C hE hH 4 rfl hi_11 (fun q : M2 => wL g ad q) (st2 L_10 4 (upd (L_10 4) x1.toNatClampNeg (L_10 0 0))) rfl dX1_putStand_23 (fun L_12 eL_12 H locs hH => ?_)
  have hf := letb_at hf L_12 eL_12
  refine lv_iload_n hx hb dX1_putStand_24 rfl (lv_at hl 0 rfl) ?_
  have hf := Option.some.inj hf
  obtain ⟨h1, h2⟩ := Prod.mk.inj hf
  subst h1
  subst h2
  exact retI C hH rfl dX1_putStand_25
def fX1_putWords (x1 : Int32) (x2 : Int32) (L : M2) : Option (Int32 × M2) := grd (inb x1 8) (letb (L 5 x1.toNatClampNeg) (fun v_6 : Int32 => grd (inb x1 8) (letb (st2 L 5 (upd (L 5) x1.toNatClampNeg x2)) (fun L_8 : M2 => some (v_6, L_8)))))
def rmX1_putWords : Room := { frames := 0, cells := 0, slots := 0, locals := 0 }
theorem hdX1_putWords : yX1_putWords.cls = yX1_putWords.cls ∧ yX1_putWords.cls ≠ "java/lang/invoke/MethodHandle" ∧ yX1_putWords.cls ≠ "java/lang/invoke/VarHandle" ∧ (parseMethodDescriptor yX1_putWords.desc).map (fun d => d.parameters.length) = some 2 := by decide +kernel
set_option maxHeartbeats 4000000 in
set_option maxRecDepth 100000 in
theorem kX1_putWords (l : Launch) (g : Gl) (ad : Nat → Nat) (sz : Nat) (L : M2) (x1 : Int32) (x2 : Int32) (r : Int32) (L' : M2)  (hf : fX1_putWords x1 x2 L = some (r, L')) : MetI l yX1_putWords (Cond.code yX1_putWords cX1_putWords 4 (some .int) :: wsL_law) rmX1_putWords [.ref (ad 0), .int x1, .int x2] g (wL g ad L) sz r (wL g ad L') := by
  refine openI (by decide +kernel) (Nat.le_of_ble_eq_true rfl) ?_
  intro p e s m args below meth c A C hE hA hH ls hl
  have hl : lv_has ls 4 [(0, .ref (ad 0)), (1, .int x1), (2, .int x2)] := hl
  have C : Cx p s m args meth c cX1_putWords 4 (some .int) RX1 := C
  obtain ⟨hx, hb, hml, hown, hT, hr, hlk⟩ := id C
  rw [fX1_putWords] at hf
  refine lv_aload_n hx hb dX1_putWords_0 rfl (lv_at hl 0 rfl) ?_
  refine gf_RX1_46 C hE hH 0 rfl rfl dX1_putWords_1 ?_
  refine lv_iload_n hx hb dX1_putWords_4 rfl (lv_at hl 1 rfl) ?_
  obtain ⟨hi_5, hf⟩ := grd_inv hf
  refine xiald C hE hH 5 rfl hi_5 dX1_putWords_5 ?_
  refine lv_topi (fun v_6 ev_6 => ?_)
  have hf := letb_at hf v_6 ev_6
  refine lv_istore_n (lv' := [(3, .int v_6), (0, .ref (ad 0)), (1, .int x1), (2, .int x2)]) hx hb dX1_putWords_6 rfl hl (by decide) rfl (fun ls hl => ?_)
  refine lv_aload_n hx hb dX1_putWords_7 rfl (lv_at hl 1 rfl) ?_
  refine gf_RX1_46 C hE hH 0 rfl rfl dX1_putWords_8 ?_
  refine lv_iload_n hx hb dX1_putWords_11 rfl (lv_at hl 2 rfl) ?_
  refine lv_iload_n hx hb dX1_putWords_12 rfl (lv_at hl 3 rfl) ?_
  obtain ⟨hi_7, hf⟩ := grd_inv hf
  refine xiast C hE hH 5 rfl hi_7 (fun q : M2 => wL g ad q) (st2 L 5 (upd (L 5) x1.toNatClampNeg x2)) rfl dX1_putWords_13 (fun L_8 eL_8 H locs hH => ?_)
  have hf := letb_at hf L_8 eL_8
  refine lv_iload_n hx hb dX1_putWords_14 rfl (lv_at hl 0 rfl) ?_
  have hf := Option.some.inj hf
  obtain ⟨h1, h2⟩ := Prod.mk.inj hf
  subst h1
  subst h2
  exact retI C hH rfl dX1_putWords_15
def fX1_putMet (x1 : Int32) (x2 : Int32) (L : M2) : Option (Int32 × M2) := grd (inb x1 8) (letb (L 6 x1.toNatClampNeg) (fun v_6 : Int32 => grd (inb x1 8) (letb (st2 L 6 (upd (L 6) x1.toNatClampNeg x2)) (fun L_8 : M2 => some (v_6, L_8)))))
def rmX1_putMet : Room := { frames := 0, cells := 0, slots := 0, locals := 0 }
theorem hdX1_putMet : yX1_putMet.cls = yX1_putMet.cls ∧ yX1_putMet.cls ≠ "java/lang/invoke/MethodHandle" ∧ yX1_putMet.cls ≠ "java/lang/invoke/VarHandle" ∧ (parseMethodDescriptor yX1_putMet.desc).map (fun d => d.parameters.length) = some 2 := by decide +kernel
set_option maxHeartbeats 4000000 in
set_option maxRecDepth 100000 in
theorem kX1_putMet (l : Launch) (g : Gl) (ad : Nat → Nat) (sz : Nat) (L : M2) (x1 : Int32) (x2 : Int32) (r : Int32) (L' : M2)  (hf : fX1_putMet x1 x2 L = some (r, L')) : MetI l yX1_putMet (Cond.code yX1_putMet cX1_putMet 4 (some .int) :: wsL_law) rmX1_putMet [.ref (ad 0), .int x1, .int x2] g (wL g ad L) sz r (wL g ad L') := by
  refine openI (by decide +kernel) (Nat.le_of_ble_eq_true rfl) ?_
  intro p e s m args below meth c A C hE hA hH ls hl
  have hl : lv_has ls 4 [(0, .ref (ad 0)), (1, .int x1), (2, .int x2)] := hl
  have C : Cx p s m args meth c cX1_putMet 4 (some .int) RX1 := C
  obtain ⟨hx, hb, hml, hown, hT, hr, hlk⟩ := id C
  rw [fX1_putMet] at hf
  refine lv_aload_n hx hb dX1_putMet_0 rfl (lv_at hl 0 rfl) ?_
  refine gf_RX1_49 C hE hH 0 rfl rfl dX1_putMet_1 ?_
  refine lv_iload_n hx hb dX1_putMet_4 rfl (lv_at hl 1 rfl) ?_
  obtain ⟨hi_5, hf⟩ := grd_inv hf
  refine xiald C hE hH 6 rfl hi_5 dX1_putMet_5 ?_
  refine lv_topi (fun v_6 ev_6 => ?_)
  have hf := letb_at hf v_6 ev_6
  refine lv_istore_n (lv' := [(3, .int v_6), (0, .ref (ad 0)), (1, .int x1), (2, .int x2)]) hx hb dX1_putMet_6 rfl hl (by decide) rfl (fun ls hl => ?_)
  refine lv_aload_n hx hb dX1_putMet_7 rfl (lv_at hl 1 rfl) ?_
  refine gf_RX1_49 C hE hH 0 rfl rfl dX1_putMet_8 ?_
  refine lv_iload_n hx hb dX1_putMet_11 rfl (lv_at hl 2 rfl) ?_
  refine lv_iload_n hx hb dX1_putMet_12 rfl (lv_at hl 3 rfl) ?_
  obtain ⟨hi_7, hf⟩ := grd_inv hf
  refine xiast C hE hH 6 rfl hi_7 (fun q : M2 => wL g ad q) (st2 L 6 (upd (L 6) x1.toNatClampNeg x2)) rfl dX1_putMet_13 (fun L_8 eL_8 H locs hH => ?_)
  have hf := letb_at hf L_8 eL_8
  refine lv_iload_n hx hb dX1_putMet_14 rfl (lv_at hl 0 rfl) ?_
  have hf := Option.some.inj hf
  obtain ⟨h1, h2⟩ := Prod.mk.inj hf
  subst h1
  subst h2
  exact retI C hH rfl dX1_putMet_15
def fX1_setOfOn_c34  (y1 : Int32) (L : M2) : Option (Int32) := some y1
def fX1_setOfOn_c28 (k_4 : Int32 → Int32 → M2 → Option (Int32)) (y1 : Int32) (y2 : Int32) (L : M2) : Option (Int32) := letb (y2 + (1 : Int32)) (fun v_6 : Int32 => k_4 y1 v_6 L)
def fX1_setOfOn_c4  : Nat → Int32 → Int32 → M2 → Option (Int32)
  | 0, _, _, _ => none
  | n + 1, y1, y2, L => (if (L 0 6) ≤ y2 then fX1_setOfOn_c34  y1 L else grd (inb y2 8) ((if (L 3 y2.toNatClampNeg) = (1 : Int32) then letb (y1 ||| ((1 : Int32) <<< (y2 &&& 31))) (fun v_10 : Int32 => fX1_setOfOn_c28 (fX1_setOfOn_c4 n) v_10 y2 L) else fX1_setOfOn_c28 (fX1_setOfOn_c4 n) y1 y2 L)))
def fX1_setOfOn (L : M2) : Option (Int32) := fX1_setOfOn_c4  FU (0 : Int32) (0 : Int32) L
def rmX1_setOfOn : Room := { frames := 0, cells := 0, slots := 0, locals := 0 }
theorem hdX1_setOfOn : yX1_setOfOn.cls = yX1_setOfOn.cls ∧ yX1_setOfOn.cls ≠ "java/lang/invoke/MethodHandle" ∧ yX1_setOfOn.cls ≠ "java/lang/invoke/VarHandle" ∧ (parseMethodDescriptor yX1_setOfOn.desc).map (fun d => d.parameters.length) = some 0 := by decide +kernel
set_option maxHeartbeats 4000000 in
set_option maxRecDepth 100000 in
theorem kX1_setOfOn (l : Launch) (g : Gl) (ad : Nat → Nat) (sz : Nat) (L : M2)  (r : Int32)  (hf : fX1_setOfOn L = some r) : MetPI l yX1_setOfOn (Cond.code yX1_setOfOn cX1_setOfOn 3 (some .int) :: wsL_law) rmX1_setOfOn [.ref (ad 0)] g (wL g ad L) sz r := by
  refine openPI (by decide +kernel) (Nat.le_of_ble_eq_true rfl) ?_
  intro p e s m args below meth c A C hE hA hH ls hl
  have hl : lv_has ls 3 [(0, .ref (ad 0))] := hl
  have C : Cx p s m args meth c cX1_setOfOn 3 (some .int) RX1 := C
  obtain ⟨hx, hb, hml, hown, hT, hr, hlk⟩ := id C
  rw [fX1_setOfOn] at hf
  have lp_4 : ∀ (n_4 : Nat) (y1 : Int32) (y2 : Int32) (ls : Array Slot), fX1_setOfOn_c4  n_4 y1 y2 L = some r → lv_has ls 3 [(0, .ref (ad 0)), (1, .int y1), (2, .int y2)] → W p l e rmX1_setOfOn s m args below meth c s.heap [] 0 0 (QPI below args s r) (F0 m 4 ls []) := by
    intro n_4
    induction n_4 with
    | zero =>
      intro y1 y2  ls hf hl
      rw [fX1_setOfOn_c4] at hf
      cases hf
    | succ n_4 ih_4 =>
      intro y1 y2  ls hf hl
      rw [fX1_setOfOn_c4] at hf
      have j_34 : ∀ (y1 : Int32) (ls : Array Slot), fX1_setOfOn_c34  y1 L = some r → lv_has ls 3 [(1, .int y1)] → W p l e rmX1_setOfOn s m args below meth c s.heap [] 0 0 (QPI below args s r) (F0 m 34 ls []) := by
        intro y1  ls hf hl
        rw [fX1_setOfOn_c34] at hf
        refine lv_iload_n hx hb dX1_setOfOn_34 rfl (lv_at hl 0 rfl) ?_
        have h1 := Option.some.inj hf
        subst h1
        exact retPI C rfl dX1_setOfOn_35
      have j_28 : ∀ (y1 : Int32) (y2 : Int32) (ls : Array Slot), fX1_setOfOn_c28 (fX1_setOfOn_c4 n_4) y1 y2 L = some r → lv_has ls 3 [(0, .ref (ad 0)), (1, .int y1), (2, .int y2)] → W p l e rmX1_setOfOn s m args below meth c s.heap [] 0 0 (QPI below args s r) (F0 m 28 ls []) := by
        intro y1 y2  ls hf hl
        rw [fX1_setOfOn_c28] at hf
        obtain ⟨v_6, ev_6⟩ : ∃ z : Int32, z = y2 + (1 : Int32) := ⟨_, rfl⟩
        have hf := letb_at hf v_6 ev_6
        refine lv_iinc (v := v_6) (lv' := [(2, .int v_6), (0, .ref (ad 0)), (1, .int y1)]) hx hb dX1_setOfOn_28 hl (k := 2) rfl (by rw [ev_6]; rfl) (by decide) rfl (fun ls hl => ?_)
        refine lv_goto (tgt := 4) hx hb dX1_setOfOn_31 (by decide) ?_
        exact ih_4 y1 v_6 ls hf (lv_sub hl [1, 2, 0] rfl)
      refine lv_iload_n hx hb dX1_setOfOn_4 rfl (lv_at hl 2 rfl) ?_
      refine lv_aload_n hx hb dX1_setOfOn_5 rfl (lv_at hl 0 rfl) ?_
      refine gf_RX1_34 C hE hH 0 rfl rfl dX1_setOfOn_6 ?_
      refine lv_icmp_ge (tgt := 34) hx hb dX1_setOfOn_9 (by decide) (fun c_7 => ?_) (fun c_7 => ?_)
      · have hf := if_p hf c_7
        exact j_34 y1 ls hf (lv_sub hl [1] rfl)
      · have hf := if_n hf c_7
        refine lv_aload_n hx hb dX1_setOfOn_12 rfl (lv_at hl 0 rfl) ?_
        refine gf_RX1_40 C hE hH 0 rfl rfl dX1_setOfOn_13 ?_
        refine lv_iload_n hx hb dX1_setOfOn_16 rfl (lv_at hl 2 rfl) ?_
        obtain ⟨hi_8, hf⟩ := grd_inv hf
        refine xiald C hE hH 3 rfl hi_8 dX1_setOfOn_17 ?_
        refine lv_iconst (v := 1) hx hb dX1_setOfOn_18 (by decide) ?_
        refine lv_icmp_ne (tgt := 28) hx hb dX1_setOfOn_19 (by decide) (fun c_9 => ?_) (fun c_9 => ?_)
        · have hf := if_n hf c_9
          exact j_28 y1 y2 ls hf (lv_sub hl [0, 1, 2] rfl)
        · have hf := if_p hf c_9
          refine lv_iload_n hx hb dX1_setOfOn_22 rfl (lv_at hl 1 rfl) ?_
          refine lv_iconst (v := 1) hx hb dX1_setOfOn_23 (by decide) ?_
          refine lv_iload_n hx hb dX1_setOfOn_24 rfl (lv_at hl 2 rfl) ?_
          refine lv_ishl hx hb dX1_setOfOn_25 ?_
          refine lv_ior hx hb dX1_setOfOn_26 ?_
          refine lv_topi (fun v_10 ev_10 => ?_)
          have hf := letb_at hf v_10 ev_10
          refine lv_istore_n (lv' := [(1, .int v_10), (0, .ref (ad 0)), (2, .int y2)]) hx hb dX1_setOfOn_27 rfl hl (by decide) rfl (fun ls hl => ?_)
          exact j_28 v_10 y2 ls hf (lv_sub hl [1, 0, 2] rfl)
  refine lv_iconst (v := 0) hx hb dX1_setOfOn_0 (by decide) ?_
  refine lv_istore_n (lv' := [(1, .int (0 : Int32)), (0, .ref (ad 0))]) hx hb dX1_setOfOn_1 rfl hl (by decide) rfl (fun ls hl => ?_)
  refine lv_iconst (v := 0) hx hb dX1_setOfOn_2 (by decide) ?_
  refine lv_istore_n (lv' := [(2, .int (0 : Int32)), (1, .int (0 : Int32)), (0, .ref (ad 0))]) hx hb dX1_setOfOn_3 rfl hl (by decide) rfl (fun ls hl => ?_)
  exact lp_4 _ (0 : Int32) (0 : Int32) ls hf (lv_sub hl [2, 1, 0] rfl)
def fX1_countStanding_c31  (y2 : Int32) (L : M2) : Option (Int32) := some y2
def fX1_countStanding_c25 (k_4 : Int32 → Int32 → Int32 → M2 → Option (Int32)) (y1 : Int32) (y2 : Int32) (y3 : Int32) (L : M2) : Option (Int32) := letb (y3 + (1 : Int32)) (fun v_6 : Int32 => k_4 y1 y2 v_6 L)
def fX1_countStanding_c4  : Nat → Int32 → Int32 → Int32 → M2 → Option (Int32)
  | 0, _, _, _, _ => none
  | n + 1, y1, y2, y3, L => (if (L 0 6) ≤ y3 then fX1_countStanding_c31  y2 L else grd (inb y3 8) ((if (L 3 y3.toNatClampNeg) = y1 then letb (y2 + (1 : Int32)) (fun v_10 : Int32 => fX1_countStanding_c25 (fX1_countStanding_c4 n) y1 v_10 y3 L) else fX1_countStanding_c25 (fX1_countStanding_c4 n) y1 y2 y3 L)))
def fX1_countStanding (x1 : Int32) (L : M2) : Option (Int32) := fX1_countStanding_c4  FU x1 (0 : Int32) (0 : Int32) L
def rmX1_countStanding : Room := { frames := 0, cells := 0, slots := 0, locals := 0 }
theorem hdX1_countStanding : yX1_countStanding.cls = yX1_countStanding.cls ∧ yX1_countStanding.cls ≠ "java/lang/invoke/MethodHandle" ∧ yX1_countStanding.cls ≠ "java/lang/invoke/VarHandle" ∧ (parseMethodDescriptor yX1_countStanding.desc).map (fun d => d.parameters.length) = some 1 := by decide +kernel
set_option maxHeartbeats 4000000 in
set_option maxRecDepth 100000 in
theorem kX1_countStanding (l : Launch) (g : Gl) (ad : Nat → Nat) (sz : Nat) (L : M2) (x1 : Int32) (r : Int32)  (hf : fX1_countStanding x1 L = some r) : MetPI l yX1_countStanding (Cond.code yX1_countStanding cX1_countStanding 4 (some .int) :: wsL_law) rmX1_countStanding [.ref (ad 0), .int x1] g (wL g ad L) sz r := by
  refine openPI (by decide +kernel) (Nat.le_of_ble_eq_true rfl) ?_
  intro p e s m args below meth c A C hE hA hH ls hl
  have hl : lv_has ls 4 [(0, .ref (ad 0)), (1, .int x1)] := hl
  have C : Cx p s m args meth c cX1_countStanding 4 (some .int) RX1 := C
  obtain ⟨hx, hb, hml, hown, hT, hr, hlk⟩ := id C
  rw [fX1_countStanding] at hf
  have lp_4 : ∀ (n_4 : Nat) (y1 : Int32) (y2 : Int32) (y3 : Int32) (ls : Array Slot), fX1_countStanding_c4  n_4 y1 y2 y3 L = some r → lv_has ls 4 [(0, .ref (ad 0)), (1, .int y1), (2, .int y2), (3, .int y3)] → W p l e rmX1_countStanding s m args below meth c s.heap [] 0 0 (QPI below args s r) (F0 m 4 ls []) := by
    intro n_4
    induction n_4 with
    | zero =>
      intro y1 y2 y3  ls hf hl
      rw [fX1_countStanding_c4] at hf
      cases hf
    | succ n_4 ih_4 =>
      intro y1 y2 y3  ls hf hl
      rw [fX1_countStanding_c4] at hf
      have j_31 : ∀ (y2 : Int32) (ls : Array Slot), fX1_countStanding_c31  y2 L = some r → lv_has ls 4 [(2, .int y2)] → W p l e rmX1_countStanding s m args below meth c s.heap [] 0 0 (QPI below args s r) (F0 m 31 ls []) := by
        intro y2  ls hf hl
        rw [fX1_countStanding_c31] at hf
        refine lv_iload_n hx hb dX1_countStanding_31 rfl (lv_at hl 0 rfl) ?_
        have h1 := Option.some.inj hf
        subst h1
        exact retPI C rfl dX1_countStanding_32
      have j_25 : ∀ (y1 : Int32) (y2 : Int32) (y3 : Int32) (ls : Array Slot), fX1_countStanding_c25 (fX1_countStanding_c4 n_4) y1 y2 y3 L = some r → lv_has ls 4 [(0, .ref (ad 0)), (1, .int y1), (2, .int y2), (3, .int y3)] → W p l e rmX1_countStanding s m args below meth c s.heap [] 0 0 (QPI below args s r) (F0 m 25 ls []) := by
        intro y1 y2 y3  ls hf hl
        rw [fX1_countStanding_c25] at hf
        obtain ⟨v_6, ev_6⟩ : ∃ z : Int32, z = y3 + (1 : Int32) := ⟨_, rfl⟩
        have hf := letb_at hf v_6 ev_6
        refine lv_iinc (v := v_6) (lv' := [(3, .int v_6), (0, .ref (ad 0)), (1, .int y1), (2, .int y2)]) hx hb dX1_countStanding_25 hl (k := 3) rfl (by rw [ev_6]; rfl) (by decide) rfl (fun ls hl => ?_)
        refine lv_goto (tgt := 4) hx hb dX1_countStanding_28 (by decide) ?_
        exact ih_4 y1 y2 v_6 ls hf (lv_sub hl [1, 2, 3, 0] rfl)
      refine lv_iload_n hx hb dX1_countStanding_4 rfl (lv_at hl 3 rfl) ?_
      refine lv_aload_n hx hb dX1_countStanding_5 rfl (lv_at hl 0 rfl) ?_
      refine gf_RX1_34 C hE hH 0 rfl rfl dX1_countStanding_6 ?_
      refine lv_icmp_ge (tgt := 31) hx hb dX1_countStanding_9 (by decide) (fun c_7 => ?_) (fun c_7 => ?_)
      · have hf := if_p hf c_7
        exact j_31 y2 ls hf (lv_sub hl [2] rfl)
      · have hf := if_n hf c_7
        refine lv_aload_n hx hb dX1_countStanding_12 rfl (lv_at hl 0 rfl) ?_
        refine gf_RX1_40 C hE hH 0 rfl rfl dX1_countStanding_13 ?_
        refine lv_iload_n hx hb dX1_countStanding_16 rfl (lv_at hl 3 rfl) ?_
        obtain ⟨hi_8, hf⟩ := grd_inv hf
        refine xiald C hE hH 3 rfl hi_8 dX1_countStanding_17 ?_
        refine lv_iload_n hx hb dX1_countStanding_18 rfl (lv_at hl 1 rfl) ?_
        refine lv_icmp_ne (tgt := 25) hx hb dX1_countStanding_19 (by decide) (fun c_9 => ?_) (fun c_9 => ?_)
        · have hf := if_n hf c_9
          exact j_25 y1 y2 y3 ls hf (lv_sub hl [0, 1, 2, 3] rfl)
        · have hf := if_p hf c_9
          obtain ⟨v_10, ev_10⟩ : ∃ z : Int32, z = y2 + (1 : Int32) := ⟨_, rfl⟩
          have hf := letb_at hf v_10 ev_10
          refine lv_iinc (v := v_10) (lv' := [(2, .int v_10), (0, .ref (ad 0)), (1, .int y1), (3, .int y3)]) hx hb dX1_countStanding_22 hl (k := 2) rfl (by rw [ev_10]; rfl) (by decide) rfl (fun ls hl => ?_)
          exact j_25 y1 v_10 y3 ls hf (lv_sub hl [1, 2, 0, 3] rfl)
  refine lv_iconst (v := 0) hx hb dX1_countStanding_0 (by decide) ?_
  refine lv_istore_n (lv' := [(2, .int (0 : Int32)), (0, .ref (ad 0)), (1, .int x1)]) hx hb dX1_countStanding_1 rfl hl (by decide) rfl (fun ls hl => ?_)
  refine lv_iconst (v := 0) hx hb dX1_countStanding_2 (by decide) ?_
  refine lv_istore_n (lv' := [(3, .int (0 : Int32)), (2, .int (0 : Int32)), (0, .ref (ad 0)), (1, .int x1)]) hx hb dX1_countStanding_3 rfl hl (by decide) rfl (fun ls hl => ?_)
  exact lp_4 _ x1 (0 : Int32) (0 : Int32) ls hf (lv_sub hl [2, 3, 1, 0] rfl)
def fX1_knowsWord_c19  (z0 : Int32) (L : M2) : Option (Int32) := grd (isB z0) (some z0)
def fX1_knowsWord (x1 : Int32) (x2 : Int32) (L : M2) : Option (Int32) := grd (inb x1 8) ((if (((L 5 x1.toNatClampNeg) >>> (x2 &&& 31)) &&& (1 : Int32)) = (1 : Int32) then fX1_knowsWord_c19  (1 : Int32) L else fX1_knowsWord_c19  (0 : Int32) L))
def rmX1_knowsWord : Room := { frames := 0, cells := 0, slots := 0, locals := 0 }
theorem hdX1_knowsWord : yX1_knowsWord.cls = yX1_knowsWord.cls ∧ yX1_knowsWord.cls ≠ "java/lang/invoke/MethodHandle" ∧ yX1_knowsWord.cls ≠ "java/lang/invoke/VarHandle" ∧ (parseMethodDescriptor yX1_knowsWord.desc).map (fun d => d.parameters.length) = some 2 := by decide +kernel
set_option maxHeartbeats 4000000 in
set_option maxRecDepth 100000 in
theorem kX1_knowsWord (l : Launch) (g : Gl) (ad : Nat → Nat) (sz : Nat) (L : M2) (x1 : Int32) (x2 : Int32) (r : Int32)  (hf : fX1_knowsWord x1 x2 L = some r) : MetPI l yX1_knowsWord (Cond.code yX1_knowsWord cX1_knowsWord 3 (some .boolean) :: wsL_law) rmX1_knowsWord [.ref (ad 0), .int x1, .int x2] g (wL g ad L) sz r := by
  refine openPI (by decide +kernel) (Nat.le_of_ble_eq_true rfl) ?_
  intro p e s m args below meth c A C hE hA hH ls hl
  have hl : lv_has ls 3 [(0, .ref (ad 0)), (1, .int x1), (2, .int x2)] := hl
  have C : Cx p s m args meth c cX1_knowsWord 3 (some .boolean) RX1 := C
  obtain ⟨hx, hb, hml, hown, hT, hr, hlk⟩ := id C
  rw [fX1_knowsWord] at hf
  have j_19 : ∀ (z0 : Int32) (ls : Array Slot), fX1_knowsWord_c19  z0 L = some r → lv_has ls 3 [] → W p l e rmX1_knowsWord s m args below meth c s.heap [] 0 0 (QPI below args s r) (F0 m 19 ls [.int z0]) := by
    intro z0  ls hf hl
    rw [fX1_knowsWord_c19] at hf
    obtain ⟨hz, hf⟩ := grd_inv hf
    have h1 := Option.some.inj hf
    subst h1
    exact retPI C (isB_nar hz) dX1_knowsWord_19
  refine lv_aload_n hx hb dX1_knowsWord_0 rfl (lv_at hl 0 rfl) ?_
  refine gf_RX1_46 C hE hH 0 rfl rfl dX1_knowsWord_1 ?_
  refine lv_iload_n hx hb dX1_knowsWord_4 rfl (lv_at hl 1 rfl) ?_
  obtain ⟨hi_3, hf⟩ := grd_inv hf
  refine xiald C hE hH 5 rfl hi_3 dX1_knowsWord_5 ?_
  refine lv_iload_n hx hb dX1_knowsWord_6 rfl (lv_at hl 2 rfl) ?_
  refine lv_ishr hx hb dX1_knowsWord_7 ?_
  refine lv_iconst (v := 1) hx hb dX1_knowsWord_8 (by decide) ?_
  refine lv_iand hx hb dX1_knowsWord_9 ?_
  refine lv_iconst (v := 1) hx hb dX1_knowsWord_10 (by decide) ?_
  refine lv_icmp_ne (tgt := 18) hx hb dX1_knowsWord_11 (by decide) (fun c_4 => ?_) (fun c_4 => ?_)
  · have hf := if_n hf c_4
    refine lv_iconst (v := 0) hx hb dX1_knowsWord_18 (by decide) ?_
    exact j_19 (0 : Int32) ls hf (lv_sub hl [] rfl)
  · have hf := if_p hf c_4
    refine lv_iconst (v := 1) hx hb dX1_knowsWord_14 (by decide) ?_
    refine lv_goto (tgt := 19) hx hb dX1_knowsWord_15 (by decide) ?_
    exact j_19 (1 : Int32) ls hf (lv_sub hl [] rfl)
def fX1_countKnowing_c30  (y2 : Int32) (L : M2) : Option (Int32) := some y2
def fX1_countKnowing_c24 (k_4 : Int32 → Int32 → Int32 → M2 → Option (Int32)) (y1 : Int32) (y2 : Int32) (y3 : Int32) (L : M2) : Option (Int32) := letb (y3 + (1 : Int32)) (fun v_7 : Int32 => k_4 y1 y2 v_7 L)
def fX1_countKnowing_c4  : Nat → Int32 → Int32 → Int32 → M2 → Option (Int32)
  | 0, _, _, _, _ => none
  | n + 1, y1, y2, y3, L => (if (L 0 6) ≤ y3 then fX1_countKnowing_c30  y2 L else (fX1_knowsWord y3 y1 L).bind (fun (r_9 : Int32) => (if r_9 = 0 then fX1_countKnowing_c24 (fX1_countKnowing_c4 n) y1 y2 y3 L else letb (y2 + (1 : Int32)) (fun v_12 : Int32 => fX1_countKnowing_c24 (fX1_countKnowing_c4 n) y1 v_12 y3 L))))
def fX1_countKnowing (x1 : Int32) (L : M2) : Option (Int32) := fX1_countKnowing_c4  FU x1 (0 : Int32) (0 : Int32) L
def rmX1_countKnowing : Room := { frames := 1, cells := 0, slots := 0, locals := 22 }
theorem hdX1_countKnowing : yX1_countKnowing.cls = yX1_countKnowing.cls ∧ yX1_countKnowing.cls ≠ "java/lang/invoke/MethodHandle" ∧ yX1_countKnowing.cls ≠ "java/lang/invoke/VarHandle" ∧ (parseMethodDescriptor yX1_countKnowing.desc).map (fun d => d.parameters.length) = some 1 := by decide +kernel
set_option maxHeartbeats 4000000 in
set_option maxRecDepth 100000 in
theorem kX1_countKnowing (l : Launch) (g : Gl) (ad : Nat → Nat) (sz : Nat) (L : M2) (x1 : Int32) (r : Int32)  (hf : fX1_countKnowing x1 L = some r) : MetPI l yX1_countKnowing (Cond.code yX1_countKnowing cX1_countKnowing 4 (some .int) :: wsL_law) rmX1_countKnowing [.ref (ad 0), .int x1] g (wL g ad L) sz r := by
  refine openPI (by decide +kernel) (Nat.le_of_ble_eq_true rfl) ?_
  intro p e s m args below meth c A C hE hA hH ls hl
  have hl : lv_has ls 4 [(0, .ref (ad 0)), (1, .int x1)] := hl
  have C : Cx p s m args meth c cX1_countKnowing 4 (some .int) RX1 := C
  obtain ⟨hx, hb, hml, hown, hT, hr, hlk⟩ := id C
  rw [fX1_countKnowing] at hf
  have lp_4 : ∀ (n_4 : Nat) (y1 : Int32) (y2 : Int32) (y3 : Int32) (ls : Array Slot), fX1_countKnowing_c4  n_4 y1 y2 y3 L = some r → lv_has ls 4 [(0, .ref (ad 0)), (1, .int y1), (2, .int y2), (3, .int y3)] → W p l e rmX1_countKnowing s m args below meth c s.heap [] 0 0 (QPI below args s r) (F0 m 4 ls []) := by
    intro n_4
    induction n_4 with
    | zero =>
      intro y1 y2 y3  ls hf hl
      rw [fX1_countKnowing_c4] at hf
      cases hf
    | succ n_4 ih_4 =>
      intro y1 y2 y3  ls hf hl
      rw [fX1_countKnowing_c4] at hf
      have j_30 : ∀ (y2 : Int32) (ls : Array Slot), fX1_countKnowing_c30  y2 L = some r → lv_has ls 4 [(2, .int y2)] → W p l e rmX1_countKnowing s m args below meth c s.heap [] 0 0 (QPI below args s r) (F0 m 30 ls []) := by
        intro y2  ls hf hl
        rw [fX1_countKnowing_c30] at hf
        refine lv_iload_n hx hb dX1_countKnowing_30 rfl (lv_at hl 0 rfl) ?_
        have h1 := Option.some.inj hf
        subst h1
        exact retPI C rfl dX1_countKnowing_31
      have j_24 : ∀ (y1 : Int32) (y2 : Int32) (y3 : Int32) (ls : Array Slot), fX1_countKnowing_c24 (fX1_countKnowing_c4 n_4) y1 y2 y3 L = some r → lv_has ls 4 [(0, .ref (ad 0)), (1, .int y1), (2, .int y2), (3, .int y3)] → W p l e rmX1_countKnowing s m args below meth c s.heap [] 0 0 (QPI below args s r) (F0 m 24 ls []) := by
        intro y1 y2 y3  ls hf hl
        rw [fX1_countKnowing_c24] at hf
        obtain ⟨v_7, ev_7⟩ : ∃ z : Int32, z = y3 + (1 : Int32) := ⟨_, rfl⟩
        have hf := letb_at hf v_7 ev_7
        refine lv_iinc (v := v_7) (lv' := [(3, .int v_7), (0, .ref (ad 0)), (1, .int y1), (2, .int y2)]) hx hb dX1_countKnowing_24 hl (k := 3) rfl (by rw [ev_7]; rfl) (by decide) rfl (fun ls hl => ?_)
        refine lv_goto (tgt := 4) hx hb dX1_countKnowing_27 (by decide) ?_
        exact ih_4 y1 y2 v_7 ls hf (lv_sub hl [1, 2, 3, 0] rfl)
      refine lv_iload_n hx hb dX1_countKnowing_4 rfl (lv_at hl 3 rfl) ?_
      refine lv_aload_n hx hb dX1_countKnowing_5 rfl (lv_at hl 0 rfl) ?_
      refine gf_RX1_34 C hE hH 0 rfl rfl dX1_countKnowing_6 ?_
      refine lv_icmp_ge (tgt := 30) hx hb dX1_countKnowing_9 (by decide) (fun c_8 => ?_) (fun c_8 => ?_)
      · have hf := if_p hf c_8
        exact j_30 y2 ls hf (lv_sub hl [2] rfl)
      · have hf := if_n hf c_8
        refine lv_aload_n hx hb dX1_countKnowing_12 rfl (lv_at hl 0 rfl) ?_
        refine lv_iload_n hx hb dX1_countKnowing_13 rfl (lv_at hl 3 rfl) ?_
        refine lv_iload_n hx hb dX1_countKnowing_14 rfl (lv_at hl 1 rfl) ?_
        obtain ⟨r_9, hc_10, hf⟩ := bind_inv hf
        refine aftPI (runV C hE hA hH [0, 1, 2, 3, 4, 5, 6] nC_L_L_0_6 (sC_L_L_0_6 g ad L) (kX1_knowsWord l g ad _ L y3 y1 r_9  hc_10) tw_25_14 tw_21_6 tw_21_7 tw_1_15 tw_21_8 hdX1_knowsWord 0 rfl rfl rfl rfl ⟨Nat.le_of_ble_eq_true rfl, Nat.le_of_ble_eq_true rfl⟩ rfl hl.1 (rest := []) rfl (Nat.le_of_ble_eq_true rfl) dX1_countKnowing_15 ⟨Nat.zero_le _, Nat.zero_le _⟩) ?_
        refine lv_if_eq (tgt := 24) hx hb dX1_countKnowing_18 (by decide) (fun c_11 => ?_) (fun c_11 => ?_)
        · have hf := if_p hf c_11
          exact j_24 y1 y2 y3 ls hf (lv_sub hl [0, 1, 2, 3] rfl)
        · have hf := if_n hf c_11
          obtain ⟨v_12, ev_12⟩ : ∃ z : Int32, z = y2 + (1 : Int32) := ⟨_, rfl⟩
          have hf := letb_at hf v_12 ev_12
          refine lv_iinc (v := v_12) (lv' := [(2, .int v_12), (0, .ref (ad 0)), (1, .int y1), (3, .int y3)]) hx hb dX1_countKnowing_21 hl (k := 2) rfl (by rw [ev_12]; rfl) (by decide) rfl (fun ls hl => ?_)
          exact j_24 y1 v_12 y3 ls hf (lv_sub hl [1, 2, 0, 3] rfl)
  refine lv_iconst (v := 0) hx hb dX1_countKnowing_0 (by decide) ?_
  refine lv_istore_n (lv' := [(2, .int (0 : Int32)), (0, .ref (ad 0)), (1, .int x1)]) hx hb dX1_countKnowing_1 rfl hl (by decide) rfl (fun ls hl => ?_)
  refine lv_iconst (v := 0) hx hb dX1_countKnowing_2 (by decide) ?_
  refine lv_istore_n (lv' := [(3, .int (0 : Int32)), (2, .int (0 : Int32)), (0, .ref (ad 0)), (1, .int x1)]) hx hb dX1_countKnowing_3 rfl hl (by decide) rfl (fun ls hl => ?_)
  exact lp_4 _ x1 (0 : Int32) (0 : Int32) ls hf (lv_sub hl [2, 3, 1, 0] rfl)
def fX1_wordsTogether_c30  (y1 : Int32) (L : M2) : Option (Int32) := some y1
def fX1_wordsTogether_c4  : Nat → Int32 → Int32 → M2 → Option (Int32)
  | 0, _, _, _ => none
  | n + 1, y1, y2, L => (if (L 0 6) ≤ y2 then fX1_wordsTogether_c30  y1 L else grd (inb y2 8) ((fJ6_bitCount_0f7a4 (L 5 y2.toNatClampNeg)).bind (fun (r_9 : Int32) => letb (y1 + r_9) (fun v_11 : Int32 => letb (y2 + (1 : Int32)) (fun v_12 : Int32 => fX1_wordsTogether_c4 n v_11 v_12 L)))))
def fX1_wordsTogether (L : M2) : Option (Int32) := fX1_wordsTogether_c4  FU (0 : Int32) (0 : Int32) L
def rmX1_wordsTogether : Room := { frames := 1, cells := 0, slots := 0, locals := 20 }
theorem hdX1_wordsTogether : yX1_wordsTogether.cls = yX1_wordsTogether.cls ∧ yX1_wordsTogether.cls ≠ "java/lang/invoke/MethodHandle" ∧ yX1_wordsTogether.cls ≠ "java/lang/invoke/VarHandle" ∧ (parseMethodDescriptor yX1_wordsTogether.desc).map (fun d => d.parameters.length) = some 0 := by decide +kernel
set_option maxHeartbeats 4000000 in
set_option maxRecDepth 100000 in
theorem kX1_wordsTogether (l : Launch) (g : Gl) (ad : Nat → Nat) (sz : Nat) (L : M2)  (r : Int32)  (hf : fX1_wordsTogether L = some r) : MetPI l yX1_wordsTogether (Cond.code yX1_wordsTogether cX1_wordsTogether 3 (some .int) :: wsL_law) rmX1_wordsTogether [.ref (ad 0)] g (wL g ad L) sz r := by
  refine openPI (by decide +kernel) (Nat.le_of_ble_eq_true rfl) ?_
  intro p e s m args below meth c A C hE hA hH ls hl
  have hl : lv_has ls 3 [(0, .ref (ad 0))] := hl
  have C : Cx p s m args meth c cX1_wordsTogether 3 (some .int) RX1 := C
  obtain ⟨hx, hb, hml, hown, hT, hr, hlk⟩ := id C
  rw [fX1_wordsTogether] at hf
  have lp_4 : ∀ (n_4 : Nat) (y1 : Int32) (y2 : Int32) (ls : Array Slot), fX1_wordsTogether_c4  n_4 y1 y2 L = some r → lv_has ls 3 [(0, .ref (ad 0)), (1, .int y1), (2, .int y2)] → W p l e rmX1_wordsTogether s m args below meth c s.heap [] 0 0 (QPI below args s r) (F0 m 4 ls []) := by
    intro n_4
    induction n_4 with
    | zero =>
      intro y1 y2  ls hf hl
      rw [fX1_wordsTogether_c4] at hf
      cases hf
    | succ n_4 ih_4 =>
      intro y1 y2  ls hf hl
      rw [fX1_wordsTogether_c4] at hf
      have j_30 : ∀ (y1 : Int32) (ls : Array Slot), fX1_wordsTogether_c30  y1 L = some r → lv_has ls 3 [(1, .int y1)] → W p l e rmX1_wordsTogether s m args below meth c s.heap [] 0 0 (QPI below args s r) (F0 m 30 ls []) := by
        intro y1  ls hf hl
        rw [fX1_wordsTogether_c30] at hf
        refine lv_iload_n hx hb dX1_wordsTogether_30 rfl (lv_at hl 0 rfl) ?_
        have h1 := Option.some.inj hf
        subst h1
        exact retPI C rfl dX1_wordsTogether_31
      refine lv_iload_n hx hb dX1_wordsTogether_4 rfl (lv_at hl 2 rfl) ?_
      refine lv_aload_n hx hb dX1_wordsTogether_5 rfl (lv_at hl 0 rfl) ?_
      refine gf_RX1_34 C hE hH 0 rfl rfl dX1_wordsTogether_6 ?_
      refine lv_icmp_ge (tgt := 30) hx hb dX1_wordsTogether_9 (by decide) (fun c_7 => ?_) (fun c_7 => ?_)
      · have hf := if_p hf c_7
        exact j_30 y1 ls hf (lv_sub hl [1] rfl)
      · have hf := if_n hf c_7
        refine lv_iload_n hx hb dX1_wordsTogether_12 rfl (lv_at hl 1 rfl) ?_
        refine lv_aload_n hx hb dX1_wordsTogether_13 rfl (lv_at hl 0 rfl) ?_
        refine gf_RX1_46 C hE hH 0 rfl rfl dX1_wordsTogether_14 ?_
        refine lv_iload_n hx hb dX1_wordsTogether_17 rfl (lv_at hl 2 rfl) ?_
        obtain ⟨hi_8, hf⟩ := grd_inv hf
        refine xiald C hE hH 5 rfl hi_8 dX1_wordsTogether_18 ?_
        obtain ⟨r_9, hc_10, hf⟩ := bind_inv hf
        refine aftPI (runS C hE hA hH [] rfl rfl (kJ6_bitCount_0f7a4 l g ad _ (L 5 y2.toNatClampNeg) r_9  hc_10) tw_24_4 tw_22_22 tw_22_23 tw_23_0 hdJ6_bitCount_0f7a4 rfl rfl ⟨Nat.le_of_ble_eq_true rfl, Nat.le_of_ble_eq_true rfl⟩ rfl hl.1 (rest := [.int y1]) rfl (Nat.le_of_ble_eq_true rfl) dX1_wordsTogether_19 ⟨Nat.zero_le _, Nat.zero_le _⟩) ?_
        refine lv_iadd hx hb dX1_wordsTogether_22 ?_
        refine lv_topi (fun v_11 ev_11 => ?_)
        have hf := letb_at hf v_11 ev_11
        refine lv_istore_n (lv' := [(1, .int v_11), (0, .ref (ad 0)), (2, .int y2)]) hx hb dX1_wordsTogether_23 rfl hl (by decide) rfl (fun ls hl => ?_)
        obtain ⟨v_12, ev_12⟩ : ∃ z : Int32, z = y2 + (1 : Int32) := ⟨_, rfl⟩
        have hf := letb_at hf v_12 ev_12
        refine lv_iinc (v := v_12) (lv' := [(2, .int v_12), (1, .int v_11), (0, .ref (ad 0))]) hx hb dX1_wordsTogether_24 hl (k := 2) rfl (by rw [ev_12]; rfl) (by decide) rfl (fun ls hl => ?_)
        refine lv_goto (tgt := 4) hx hb dX1_wordsTogether_27 (by decide) ?_
        exact ih_4 v_11 v_12 ls hf (lv_sub hl [2, 1, 0] rfl)
  refine lv_iconst (v := 0) hx hb dX1_wordsTogether_0 (by decide) ?_
  refine lv_istore_n (lv' := [(1, .int (0 : Int32)), (0, .ref (ad 0))]) hx hb dX1_wordsTogether_1 rfl hl (by decide) rfl (fun ls hl => ?_)
  refine lv_iconst (v := 0) hx hb dX1_wordsTogether_2 (by decide) ?_
  refine lv_istore_n (lv' := [(2, .int (0 : Int32)), (1, .int (0 : Int32)), (0, .ref (ad 0))]) hx hb dX1_wordsTogether_3 rfl hl (by decide) rfl (fun ls hl => ?_)
  exact lp_4 _ (0 : Int32) (0 : Int32) ls hf (lv_sub hl [2, 1, 0] rfl)
