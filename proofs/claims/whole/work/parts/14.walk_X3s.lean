def fJ0_coder_7d493_c14  (z0 : Int32) (i0 : Nat) : Option (Int32) := grd (isBy z0) (some z0)
def fJ0_coder_7d493 (i0 : Nat) : Option (Int32) := (if (1 : Int32) = 0 then none else fJ0_coder_7d493_c14  (0 : Int32) i0)
def rmJ0_coder_7d493 : Room := { frames := 0, cells := 0, slots := 0, locals := 0 }
theorem hdJ0_coder_7d493 : yJ0_coder_7d493.cls = yJ0_coder_7d493.cls ∧ yJ0_coder_7d493.cls ≠ "java/lang/invoke/MethodHandle" ∧ yJ0_coder_7d493.cls ≠ "java/lang/invoke/VarHandle" ∧ (parseMethodDescriptor yJ0_coder_7d493.desc).map (fun d => d.parameters.length) = some 0 := by decide +kernel
set_option maxHeartbeats 4000000 in
set_option maxRecDepth 100000 in
theorem kJ0_coder_7d493 (l : Launch) (g : Gl) (ad : Nat → Nat) (sz : Nat)  (i0 : Nat) (r : Int32) (hii0 : i0 < nJS) (hf : fJ0_coder_7d493 i0 = some r) : MetPI l yJ0_coder_7d493 (Cond.code yJ0_coder_7d493 cJ0_coder_7d493 1 (some .byte) :: wsL_law) rmJ0_coder_7d493 [.ref (g.2.2.1 i0)] g ([]) sz r := by
  refine openPI (by decide +kernel) (Nat.le_of_ble_eq_true rfl) ?_
  intro p e s m args below meth c A C hE hA hH ls hl
  have hl : lv_has ls 1 [(0, .ref (g.2.2.1 i0))] := hl
  have C : Cx p s m args meth c cJ0_coder_7d493 1 (some .byte) RJ0 := C
  obtain ⟨hx, hb, hml, hown, hT, hr, hlk⟩ := id C
  rw [fJ0_coder_7d493] at hf
  have j_14 : ∀ (z0 : Int32) (ls : Array Slot), fJ0_coder_7d493_c14  z0 i0 = some r → lv_has ls 1 [] → W p l e rmJ0_coder_7d493 s m args below meth c s.heap [] 0 0 (QPI below args s r) (F0 m 14 ls [.int z0]) := by
    intro z0  ls hf hl
    rw [fJ0_coder_7d493_c14] at hf
    obtain ⟨hz, hf⟩ := grd_inv hf
    have h1 := Option.some.inj hf
    subst h1
    exact retPI C (isBy_nar hz) dJ0_coder_7d493_14
  refine va_gets hx hb hE.2.1.2.2.2.2.1 hH.2.2 hown (hT _ tw_28_11) (fun _ h9 => h9) dJ0_coder_7d493_0 ?_
  refine lv_if_eq (tgt := 13) hx hb dJ0_coder_7d493_3 (by decide) (fun c_2 => ?_) (fun c_2 => ?_)
  · have hf := if_p hf c_2
    cases hf
  · have hf := if_n hf c_2
    refine lv_aload_n hx hb dJ0_coder_7d493_6 rfl (lv_at hl 0 rfl) ?_
    refine vk_getf hx hb (hE.2.1.2.2.2.1.1 i0 hii0).2.1 hH.2.2 hown (hT _ tw_28_12) (fun _ h9 => h9) dJ0_coder_7d493_7 ?_
    refine lv_goto (tgt := 14) hx hb dJ0_coder_7d493_10 (by decide) ?_
    exact j_14 (0 : Int32) ls hf (lv_sub hl [] rfl)
def fJ0_length_8abf5 (i0 : Nat) : Option (Int32) := (fJ0_coder_7d493 i0).bind (fun (r_3 : Int32) => some ((Int32.ofNat (lenJS.getD i0 0)) >>> (r_3 &&& 31)))
def rmJ0_length_8abf5 : Room := { frames := 1, cells := 0, slots := 0, locals := 20 }
theorem hdJ0_length_8abf5 : yJ0_length_8abf5.cls = yJ0_length_8abf5.cls ∧ yJ0_length_8abf5.cls ≠ "java/lang/invoke/MethodHandle" ∧ yJ0_length_8abf5.cls ≠ "java/lang/invoke/VarHandle" ∧ (parseMethodDescriptor yJ0_length_8abf5.desc).map (fun d => d.parameters.length) = some 0 := by decide +kernel
set_option maxHeartbeats 4000000 in
set_option maxRecDepth 100000 in
theorem kJ0_length_8abf5 (l : Launch) (g : Gl) (ad : Nat → Nat) (sz : Nat)  (i0 : Nat) (r : Int32) (hii0 : i0 < nJS) (hf : fJ0_length_8abf5 i0 = some r) : MetPI l yJ0_length_8abf5 (Cond.code yJ0_length_8abf5 cJ0_length_8abf5 1 (some .int) :: wsL_law) rmJ0_length_8abf5 [.ref (g.2.2.1 i0)] g ([]) sz r := by
  refine openPI (by decide +kernel) (Nat.le_of_ble_eq_true rfl) ?_
  intro p e s m args below meth c A C hE hA hH ls hl
  have hl : lv_has ls 1 [(0, .ref (g.2.2.1 i0))] := hl
  have C : Cx p s m args meth c cJ0_length_8abf5 1 (some .int) RJ0 := C
  obtain ⟨hx, hb, hml, hown, hT, hr, hlk⟩ := id C
  rw [fJ0_length_8abf5] at hf
  refine lv_aload_n hx hb dJ0_length_8abf5_0 rfl (lv_at hl 0 rfl) ?_
  refine vk_getf hx hb (hE.2.1.2.2.2.1.1 i0 hii0).2.2.1 hH.2.2 hown (hT _ tw_28_6) (fun _ h9 => h9) dJ0_length_8abf5_1 ?_
  refine va_tlen hx hb (hE.2.1.2.2.2.1.1 i0 hii0).2.2.2 hH.2.2 rfl dJ0_length_8abf5_4 ?_
  refine lv_aload_n hx hb dJ0_length_8abf5_5 rfl (lv_at hl 0 rfl) ?_
  obtain ⟨r_3, hc_4, hf⟩ := bind_inv hf
  refine aftPI (runVs C hE hA hH [] rfl rfl (kJ0_coder_7d493 l g ad _ i0 r_3 hii0 hc_4) tw_28_7 tw_28_8 tw_28_9 tw_28_4 tw_28_10 hdJ0_coder_7d493 (str_recv hE hH hii0) rfl rfl ⟨Nat.le_of_ble_eq_true rfl, Nat.le_of_ble_eq_true rfl⟩ rfl hl.1 (rest := [.int (Int32.ofNat (lenJS.getD i0 0))]) rfl (Nat.le_of_ble_eq_true rfl) dJ0_length_8abf5_6 ⟨Nat.zero_le _, Nat.zero_le _⟩) ?_
  refine lv_ishr hx hb dJ0_length_8abf5_9 ?_
  have h1 := Option.some.inj hf
  subst h1
  exact retPI C rfl dJ0_length_8abf5_10
def fJ0_isLatin1_aae02_c18  (z0 : Int32) (i0 : Nat) : Option (Int32) := grd (isB z0) (some z0)
def fJ0_isLatin1_aae02_c17  (i0 : Nat) : Option (Int32) := fJ0_isLatin1_aae02_c18  (0 : Int32) i0
def fJ0_isLatin1_aae02 (i0 : Nat) : Option (Int32) := (if (1 : Int32) = 0 then fJ0_isLatin1_aae02_c17  i0 else (if (0 : Int32) = 0 then fJ0_isLatin1_aae02_c18  (1 : Int32) i0 else fJ0_isLatin1_aae02_c17  i0))
def rmJ0_isLatin1_aae02 : Room := { frames := 0, cells := 0, slots := 0, locals := 0 }
theorem hdJ0_isLatin1_aae02 : yJ0_isLatin1_aae02.cls = yJ0_isLatin1_aae02.cls ∧ yJ0_isLatin1_aae02.cls ≠ "java/lang/invoke/MethodHandle" ∧ yJ0_isLatin1_aae02.cls ≠ "java/lang/invoke/VarHandle" ∧ (parseMethodDescriptor yJ0_isLatin1_aae02.desc).map (fun d => d.parameters.length) = some 0 := by decide +kernel
set_option maxHeartbeats 4000000 in
set_option maxRecDepth 100000 in
theorem kJ0_isLatin1_aae02 (l : Launch) (g : Gl) (ad : Nat → Nat) (sz : Nat)  (i0 : Nat) (r : Int32) (hii0 : i0 < nJS) (hf : fJ0_isLatin1_aae02 i0 = some r) : MetPI l yJ0_isLatin1_aae02 (Cond.code yJ0_isLatin1_aae02 cJ0_isLatin1_aae02 1 (some .boolean) :: wsL_law) rmJ0_isLatin1_aae02 [.ref (g.2.2.1 i0)] g ([]) sz r := by
  refine openPI (by decide +kernel) (Nat.le_of_ble_eq_true rfl) ?_
  intro p e s m args below meth c A C hE hA hH ls hl
  have hl : lv_has ls 1 [(0, .ref (g.2.2.1 i0))] := hl
  have C : Cx p s m args meth c cJ0_isLatin1_aae02 1 (some .boolean) RJ0 := C
  obtain ⟨hx, hb, hml, hown, hT, hr, hlk⟩ := id C
  rw [fJ0_isLatin1_aae02] at hf
  have j_18 : ∀ (z0 : Int32) (ls : Array Slot), fJ0_isLatin1_aae02_c18  z0 i0 = some r → lv_has ls 1 [] → W p l e rmJ0_isLatin1_aae02 s m args below meth c s.heap [] 0 0 (QPI below args s r) (F0 m 18 ls [.int z0]) := by
    intro z0  ls hf hl
    rw [fJ0_isLatin1_aae02_c18] at hf
    obtain ⟨hz, hf⟩ := grd_inv hf
    have h1 := Option.some.inj hf
    subst h1
    exact retPI C (isB_nar hz) dJ0_isLatin1_aae02_18
  have j_17 : ∀  (ls : Array Slot), fJ0_isLatin1_aae02_c17  i0 = some r → lv_has ls 1 [] → W p l e rmJ0_isLatin1_aae02 s m args below meth c s.heap [] 0 0 (QPI below args s r) (F0 m 17 ls []) := by
    intro  ls hf hl
    rw [fJ0_isLatin1_aae02_c17] at hf
    refine lv_iconst (v := 0) hx hb dJ0_isLatin1_aae02_17 (by decide) ?_
    exact j_18 (0 : Int32) ls hf (lv_sub hl [] rfl)
  refine va_gets hx hb hE.2.1.2.2.2.2.1 hH.2.2 hown (hT _ tw_28_11) (fun _ h9 => h9) dJ0_isLatin1_aae02_0 ?_
  refine lv_if_eq (tgt := 17) hx hb dJ0_isLatin1_aae02_3 (by decide) (fun c_3 => ?_) (fun c_3 => ?_)
  · have hf := if_p hf c_3
    exact j_17  ls hf (lv_sub hl [] rfl)
  · have hf := if_n hf c_3
    refine lv_aload_n hx hb dJ0_isLatin1_aae02_6 rfl (lv_at hl 0 rfl) ?_
    refine vk_getf hx hb (hE.2.1.2.2.2.1.1 i0 hii0).2.1 hH.2.2 hown (hT _ tw_28_12) (fun _ h9 => h9) dJ0_isLatin1_aae02_7 ?_
    refine lv_if_ne (tgt := 17) hx hb dJ0_isLatin1_aae02_10 (by decide) (fun c_4 => ?_) (fun c_4 => ?_)
    · have hf := if_n hf c_4
      exact j_17  ls hf (lv_sub hl [] rfl)
    · have hf := if_p hf c_4
      refine lv_iconst (v := 1) hx hb dJ0_isLatin1_aae02_13 (by decide) ?_
      refine lv_goto (tgt := 18) hx hb dJ0_isLatin1_aae02_14 (by decide) ?_
      exact j_18 (1 : Int32) ls hf (lv_sub hl [] rfl)
def fJ3_checkIndex_8e157_c9  (y0 : Int32) (y1 : Int32) : Option (Int32) := none
def fJ3_checkIndex_8e157 (x1 : Int32) (x2 : Int32) : Option (Int32) := (if x1 < 0 then fJ3_checkIndex_8e157_c9  x1 x2 else (if x1 < x2 then some x1 else fJ3_checkIndex_8e157_c9  x1 x2))
def rmJ3_checkIndex_8e157 : Room := { frames := 0, cells := 0, slots := 0, locals := 0 }
theorem hdJ3_checkIndex_8e157 : yJ3_checkIndex_8e157.cls = yJ3_checkIndex_8e157.cls ∧ yJ3_checkIndex_8e157.cls ≠ "java/lang/invoke/MethodHandle" ∧ yJ3_checkIndex_8e157.cls ≠ "java/lang/invoke/VarHandle" ∧ (parseMethodDescriptor yJ3_checkIndex_8e157.desc).map (fun d => d.parameters.length) = some 3 := by decide +kernel
set_option maxHeartbeats 4000000 in
set_option maxRecDepth 100000 in
theorem kJ3_checkIndex_8e157_r (l : Launch) (g : Gl) (ad : Nat → Nat) (sz : Nat) (a0 : Nat) (x1 : Int32) (x2 : Int32) (r : Int32)  (hf : fJ3_checkIndex_8e157 x1 x2 = some r) : MetPI l yJ3_checkIndex_8e157 (Cond.code yJ3_checkIndex_8e157 cJ3_checkIndex_8e157 3 (some .int) :: wsL_law) rmJ3_checkIndex_8e157 [.int x1, .int x2, .ref a0] g ([]) sz r := by
  refine openPI (by decide +kernel) (Nat.le_of_ble_eq_true rfl) ?_
  intro p e s m args below meth c A C hE hA hH ls hl
  have hl : lv_has ls 3 [(0, .int x1), (1, .int x2), (2, .ref a0)] := hl
  have C : Cx p s m args meth c cJ3_checkIndex_8e157 3 (some .int) RJ3 := C
  obtain ⟨hx, hb, hml, hown, hT, hr, hlk⟩ := id C
  rw [fJ3_checkIndex_8e157] at hf
  have j_9 : ∀ (y0 : Int32) (y1 : Int32) (ls : Array Slot), fJ3_checkIndex_8e157_c9  y0 y1 = some r → lv_has ls 3 [(0, .int y0), (1, .int y1), (2, .ref a0)] → W p l e rmJ3_checkIndex_8e157 s m args below meth c s.heap [] 0 0 (QPI below args s r) (F0 m 9 ls []) := by
    intro y0 y1  ls hf hl
    rw [fJ3_checkIndex_8e157_c9] at hf
    cases hf
  refine lv_iload_n hx hb dJ3_checkIndex_8e157_0 rfl (lv_at hl 0 rfl) ?_
  refine lv_if_lt (tgt := 9) hx hb dJ3_checkIndex_8e157_1 (by decide) (fun c_3 => ?_) (fun c_3 => ?_)
  · have hf := if_p hf c_3
    exact j_9 x1 x2 ls hf (lv_sub hl [0, 1, 2] rfl)
  · have hf := if_n hf c_3
    refine lv_iload_n hx hb dJ3_checkIndex_8e157_4 rfl (lv_at hl 0 rfl) ?_
    refine lv_iload_n hx hb dJ3_checkIndex_8e157_5 rfl (lv_at hl 1 rfl) ?_
    refine lv_icmp_lt (tgt := 16) hx hb dJ3_checkIndex_8e157_6 (by decide) (fun c_4 => ?_) (fun c_4 => ?_)
    · have hf := if_p hf c_4
      refine lv_iload_n hx hb dJ3_checkIndex_8e157_16 rfl (lv_at hl 0 rfl) ?_
      have h1 := Option.some.inj hf
      subst h1
      exact retPI C rfl dJ3_checkIndex_8e157_17
    · have hf := if_n hf c_4
      exact j_9 x1 x2 ls hf (lv_sub hl [0, 1, 2] rfl)
set_option maxHeartbeats 4000000 in
set_option maxRecDepth 100000 in
theorem kJ3_checkIndex_8e157_n (l : Launch) (g : Gl) (ad : Nat → Nat) (sz : Nat)  (x1 : Int32) (x2 : Int32) (r : Int32)  (hf : fJ3_checkIndex_8e157 x1 x2 = some r) : MetPI l yJ3_checkIndex_8e157 (Cond.code yJ3_checkIndex_8e157 cJ3_checkIndex_8e157 3 (some .int) :: wsL_law) rmJ3_checkIndex_8e157 [.int x1, .int x2, .null] g ([]) sz r := by
  refine openPI (by decide +kernel) (Nat.le_of_ble_eq_true rfl) ?_
  intro p e s m args below meth c A C hE hA hH ls hl
  have hl : lv_has ls 3 [(0, .int x1), (1, .int x2), (2, .null)] := hl
  have C : Cx p s m args meth c cJ3_checkIndex_8e157 3 (some .int) RJ3 := C
  obtain ⟨hx, hb, hml, hown, hT, hr, hlk⟩ := id C
  rw [fJ3_checkIndex_8e157] at hf
  have j_9 : ∀ (y0 : Int32) (y1 : Int32) (ls : Array Slot), fJ3_checkIndex_8e157_c9  y0 y1 = some r → lv_has ls 3 [(0, .int y0), (1, .int y1), (2, .null)] → W p l e rmJ3_checkIndex_8e157 s m args below meth c s.heap [] 0 0 (QPI below args s r) (F0 m 9 ls []) := by
    intro y0 y1  ls hf hl
    rw [fJ3_checkIndex_8e157_c9] at hf
    cases hf
  refine lv_iload_n hx hb dJ3_checkIndex_8e157_0 rfl (lv_at hl 0 rfl) ?_
  refine lv_if_lt (tgt := 9) hx hb dJ3_checkIndex_8e157_1 (by decide) (fun c_3 => ?_) (fun c_3 => ?_)
  · have hf := if_p hf c_3
    exact j_9 x1 x2 ls hf (lv_sub hl [0, 1, 2] rfl)
  · have hf := if_n hf c_3
    refine lv_iload_n hx hb dJ3_checkIndex_8e157_4 rfl (lv_at hl 0 rfl) ?_
    refine lv_iload_n hx hb dJ3_checkIndex_8e157_5 rfl (lv_at hl 1 rfl) ?_
    refine lv_icmp_lt (tgt := 16) hx hb dJ3_checkIndex_8e157_6 (by decide) (fun c_4 => ?_) (fun c_4 => ?_)
    · have hf := if_p hf c_4
      refine lv_iload_n hx hb dJ3_checkIndex_8e157_16 rfl (lv_at hl 0 rfl) ?_
      have h1 := Option.some.inj hf
      subst h1
      exact retPI C rfl dJ3_checkIndex_8e157_17
    · have hf := if_n hf c_4
      exact j_9 x1 x2 ls hf (lv_sub hl [0, 1, 2] rfl)
theorem kJ3_checkIndex_8e157 (l : Launch) (g : Gl) (ad : Nat → Nat) (sz : Nat)  (x1 : Int32) (x2 : Int32) (r : Int32)  (hf : fJ3_checkIndex_8e157 x1 x2 = some r) : MetPI l yJ3_checkIndex_8e157 (Cond.code yJ3_checkIndex_8e157 cJ3_checkIndex_8e157 3 (some .int) :: wsL_law) rmJ3_checkIndex_8e157 [.int x1, .int x2, va_rf (g.2.2.2.2.2.2.2)] g ([]) sz r := by
  cases ho : g.2.2.2.2.2.2.2 with
  | none => exact kJ3_checkIndex_8e157_n l g ad sz x1 x2 r hf
  | some a0 => exact kJ3_checkIndex_8e157_r l g ad sz a0 x1 x2 r hf
def fJ0_checkIndex_df160 (x1 : Int32) (x2 : Int32) : Option (Unit) := (fJ3_checkIndex_8e157 x1 x2).bind (fun (r_3 : Int32) => some ())
def rmJ0_checkIndex_df160 : Room := { frames := 1, cells := 0, slots := 0, locals := 22 }
theorem hdJ0_checkIndex_df160 : yJ0_checkIndex_df160.cls = yJ0_checkIndex_df160.cls ∧ yJ0_checkIndex_df160.cls ≠ "java/lang/invoke/MethodHandle" ∧ yJ0_checkIndex_df160.cls ≠ "java/lang/invoke/VarHandle" ∧ (parseMethodDescriptor yJ0_checkIndex_df160.desc).map (fun d => d.parameters.length) = some 2 := by decide +kernel
set_option maxHeartbeats 4000000 in
set_option maxRecDepth 100000 in
theorem kJ0_checkIndex_df160 (l : Launch) (g : Gl) (ad : Nat → Nat) (sz : Nat)  (x1 : Int32) (x2 : Int32)   (hf : fJ0_checkIndex_df160 x1 x2 = some ()) : MetPV l yJ0_checkIndex_df160 (Cond.code yJ0_checkIndex_df160 cJ0_checkIndex_df160 2 none :: wsL_law) rmJ0_checkIndex_df160 [.int x1, .int x2] g ([]) sz := by
  refine openPV (by decide +kernel) (Nat.le_of_ble_eq_true rfl) ?_
  intro p e s m args below meth c A C hE hA hH ls hl
  have hl : lv_has ls 2 [(0, .int x1), (1, .int x2)] := hl
  have C : Cx p s m args meth c cJ0_checkIndex_df160 2 none RJ0 := C
  obtain ⟨hx, hb, hml, hown, hT, hr, hlk⟩ := id C
  rw [fJ0_checkIndex_df160] at hf
  refine lv_iload_n hx hb dJ0_checkIndex_df160_0 rfl (lv_at hl 0 rfl) ?_
  refine lv_iload_n hx hb dJ0_checkIndex_df160_1 rfl (lv_at hl 1 rfl) ?_
  refine va_gets hx hb hE.2.1.2.2.2.2.2 hH.2.2 hown (hT _ tw_29_4) (fun _ h9 => h9) dJ0_checkIndex_df160_2 ?_
  obtain ⟨r_3, hc_4, hf⟩ := bind_inv hf
  refine aftPI (runS C hE hA hH [] rfl rfl (kJ3_checkIndex_8e157 l g ad _ x1 x2 r_3  hc_4) tw_29_5 tw_29_6 tw_29_7 tw_29_8 hdJ3_checkIndex_8e157 rfl rfl ⟨Nat.le_of_ble_eq_true rfl, Nat.le_of_ble_eq_true rfl⟩ rfl hl.1 (rest := []) rfl (Nat.le_of_ble_eq_true rfl) dJ0_checkIndex_df160_5 ⟨Nat.zero_le _, Nat.zero_le _⟩) ?_
  refine lv_pop hx hb dJ0_checkIndex_df160_8 rfl ?_
  exact retPV C dJ0_checkIndex_df160_9
def fJ1_charAt_3b067 (i0 : Nat) (x2 : Int32) : Option (Int32) := (fJ0_checkIndex_df160 x2 (Int32.ofNat (lenJS.getD i0 0))).bind (fun (_ : Unit) => grd (inb x2 (lenJS.getD i0 0)) (grd (isC (((((bytJS.getD i0 []).getD x2.toNatClampNeg 0) &&& (255 : Int32)).toUInt32 % 65536).toInt32)) (some (((((bytJS.getD i0 []).getD x2.toNatClampNeg 0) &&& (255 : Int32)).toUInt32 % 65536).toInt32))))
def rmJ1_charAt_3b067 : Room := { frames := 2, cells := 0, slots := 0, locals := 43 }
theorem hdJ1_charAt_3b067 : yJ1_charAt_3b067.cls = yJ1_charAt_3b067.cls ∧ yJ1_charAt_3b067.cls ≠ "java/lang/invoke/MethodHandle" ∧ yJ1_charAt_3b067.cls ≠ "java/lang/invoke/VarHandle" ∧ (parseMethodDescriptor yJ1_charAt_3b067.desc).map (fun d => d.parameters.length) = some 2 := by decide +kernel
set_option maxHeartbeats 4000000 in
set_option maxRecDepth 100000 in
theorem kJ1_charAt_3b067 (l : Launch) (g : Gl) (ad : Nat → Nat) (sz : Nat)  (i0 : Nat) (x2 : Int32) (r : Int32) (hii0 : i0 < nJS) (hf : fJ1_charAt_3b067 i0 x2 = some r) : MetPI l yJ1_charAt_3b067 (Cond.code yJ1_charAt_3b067 cJ1_charAt_3b067 2 (some .char) :: wsL_law) rmJ1_charAt_3b067 [.ref (g.2.2.2.1 i0), .int x2] g ([]) sz r := by
  refine openPI (by decide +kernel) (Nat.le_of_ble_eq_true rfl) ?_
  intro p e s m args below meth c A C hE hA hH ls hl
  have hl : lv_has ls 2 [(0, .ref (g.2.2.2.1 i0)), (1, .int x2)] := hl
  have C : Cx p s m args meth c cJ1_charAt_3b067 2 (some .char) RJ1 := C
  obtain ⟨hx, hb, hml, hown, hT, hr, hlk⟩ := id C
  rw [fJ1_charAt_3b067] at hf
  refine lv_iload_n hx hb dJ1_charAt_3b067_0 rfl (lv_at hl 1 rfl) ?_
  refine lv_aload_n hx hb dJ1_charAt_3b067_1 rfl (lv_at hl 0 rfl) ?_
  refine va_tlen hx hb (hE.2.1.2.2.2.1.1 i0 hii0).2.2.2 hH.2.2 rfl dJ1_charAt_3b067_2 ?_
  obtain ⟨_, hc_3, hf⟩ := bind_inv hf
  refine aftPV (runS C hE hA hH [] rfl rfl (kJ0_checkIndex_df160 l g ad _ x2 (Int32.ofNat (lenJS.getD i0 0))   hc_3) tw_29_1 tw_29_2 tw_28_4 tw_29_3 hdJ0_checkIndex_df160 rfl rfl ⟨Nat.le_of_ble_eq_true rfl, Nat.le_of_ble_eq_true rfl⟩ rfl hl.1 (rest := []) rfl (Nat.le_of_ble_eq_true rfl) dJ1_charAt_3b067_3 ⟨Nat.zero_le _, Nat.zero_le _⟩) ?_
  refine lv_aload_n hx hb dJ1_charAt_3b067_6 rfl (lv_at hl 0 rfl) ?_
  refine lv_iload_n hx hb dJ1_charAt_3b067_7 rfl (lv_at hl 1 rfl) ?_
  obtain ⟨hi_4, hf⟩ := grd_inv hf
  refine va_tb hx hb (hE.2.1.2.2.2.1.1 i0 hii0).2.2.2 hH.2.2 (inb_in hi_4) rfl dJ1_charAt_3b067_8 ?_
  refine lv_sipush (v := 255) hx hb dJ1_charAt_3b067_9 (by decide) ?_
  refine lv_iand hx hb dJ1_charAt_3b067_12 ?_
  refine lv_i2c hx hb dJ1_charAt_3b067_13 rfl ?_
  obtain ⟨hz, hf⟩ := grd_inv hf
  have h1 := Option.some.inj hf
  subst h1
  exact retPI C (isC_nar hz) dJ1_charAt_3b067_14
def fJ0_charAt_5068e (i0 : Nat) (x1 : Int32) : Option (Int32) := (fJ0_isLatin1_aae02 i0).bind (fun (r_6 : Int32) => (if r_6 = 0 then none else (fJ1_charAt_3b067 i0 x1).bind (fun (r_9 : Int32) => grd (isC r_9) (some r_9))))
def rmJ0_charAt_5068e : Room := { frames := 3, cells := 0, slots := 0, locals := 64 }
theorem hdJ0_charAt_5068e : yJ0_charAt_5068e.cls = yJ0_charAt_5068e.cls ∧ yJ0_charAt_5068e.cls ≠ "java/lang/invoke/MethodHandle" ∧ yJ0_charAt_5068e.cls ≠ "java/lang/invoke/VarHandle" ∧ (parseMethodDescriptor yJ0_charAt_5068e.desc).map (fun d => d.parameters.length) = some 1 := by decide +kernel
set_option maxHeartbeats 4000000 in
set_option maxRecDepth 100000 in
theorem kJ0_charAt_5068e (l : Launch) (g : Gl) (ad : Nat → Nat) (sz : Nat)  (i0 : Nat) (x1 : Int32) (r : Int32) (hii0 : i0 < nJS) (hf : fJ0_charAt_5068e i0 x1 = some r) : MetPI l yJ0_charAt_5068e (Cond.code yJ0_charAt_5068e cJ0_charAt_5068e 2 (some .char) :: wsL_law) rmJ0_charAt_5068e [.ref (g.2.2.1 i0), .int x1] g ([]) sz r := by
  refine openPI (by decide +kernel) (Nat.le_of_ble_eq_true rfl) ?_
  intro p e s m args below meth c A C hE hA hH ls hl
  have hl : lv_has ls 2 [(0, .ref (g.2.2.1 i0)), (1, .int x1)] := hl
  have C : Cx p s m args meth c cJ0_charAt_5068e 2 (some .char) RJ0 := C
  obtain ⟨hx, hb, hml, hown, hT, hr, hlk⟩ := id C
  rw [fJ0_charAt_5068e] at hf
  refine lv_aload_n hx hb dJ0_charAt_5068e_0 rfl (lv_at hl 0 rfl) ?_
  obtain ⟨r_6, hc_7, hf⟩ := bind_inv hf
  refine aftPI (runVs C hE hA hH [] rfl rfl (kJ0_isLatin1_aae02 l g ad _ i0 r_6 hii0 hc_7) tw_28_17 tw_28_18 tw_28_19 tw_28_4 tw_28_20 hdJ0_isLatin1_aae02 (str_recv hE hH hii0) rfl rfl ⟨Nat.le_of_ble_eq_true rfl, Nat.le_of_ble_eq_true rfl⟩ rfl hl.1 (rest := []) rfl (Nat.le_of_ble_eq_true rfl) dJ0_charAt_5068e_1 ⟨Nat.zero_le _, Nat.zero_le _⟩) ?_
  refine lv_if_eq (tgt := 16) hx hb dJ0_charAt_5068e_4 (by decide) (fun c_8 => ?_) (fun c_8 => ?_)
  · have hf := if_p hf c_8
    cases hf
  · have hf := if_n hf c_8
    refine lv_aload_n hx hb dJ0_charAt_5068e_7 rfl (lv_at hl 0 rfl) ?_
    refine vk_getf hx hb (hE.2.1.2.2.2.1.1 i0 hii0).2.2.1 hH.2.2 hown (hT _ tw_28_6) (fun _ h9 => h9) dJ0_charAt_5068e_8 ?_
    refine lv_iload_n hx hb dJ0_charAt_5068e_11 rfl (lv_at hl 1 rfl) ?_
    obtain ⟨r_9, hc_10, hf⟩ := bind_inv hf
    refine aftPI (runS C hE hA hH [] rfl rfl (kJ1_charAt_3b067 l g ad _ i0 x1 r_9 hii0 hc_10) tw_28_21 tw_28_22 tw_28_23 tw_29_0 hdJ1_charAt_3b067 rfl rfl ⟨Nat.le_of_ble_eq_true rfl, Nat.le_of_ble_eq_true rfl⟩ rfl hl.1 (rest := []) rfl (Nat.le_of_ble_eq_true rfl) dJ0_charAt_5068e_12 ⟨Nat.zero_le _, Nat.zero_le _⟩) ?_
    obtain ⟨hz, hf⟩ := grd_inv hf
    have h1 := Option.some.inj hf
    subst h1
    exact retPI C (isC_nar hz) dJ0_charAt_5068e_15
def fX3_showsWord_c24  (i0 : Nat) (T : M2) : Option (Int32) := some (0 : Int32)
def fX3_showsWord_c63  (i0 : Nat) (T : M2) : Option (Int32) := some (1 : Int32)
def fX3_showsWord_c55  (i0 : Nat) (T : M2) : Option (Int32) := some (0 : Int32)
def fX3_showsWord_c28  : Nat → Int32 → Nat → M2 → Option (Int32)
  | 0, _, _, _ => none
  | n + 1, y2, i0, T => (fJ0_length_8abf5 i0).bind (fun (r_13 : Int32) => (if r_13 ≤ y2 then fX3_showsWord_c63  i0 T else grd (inb ((T 0 2) + y2) 120) ((fJ0_charAt_5068e i0 y2).bind (fun (r_17 : Int32) => (if (T 1 ((T 0 2) + y2).toNatClampNeg) = r_17 then letb (y2 + (1 : Int32)) (fun v_20 : Int32 => fX3_showsWord_c28 n v_20 i0 T) else fX3_showsWord_c55  i0 T)))))
def fX3_showsWord (i0 : Nat) (T : M2) : Option (Int32) := (if (T 0 1) = (1 : Int32) then (fJ0_length_8abf5 i0).bind (fun (r_22 : Int32) => (if ((T 0 3) - (T 0 2)) = r_22 then fX3_showsWord_c28  FU (0 : Int32) i0 T else fX3_showsWord_c24  i0 T)) else fX3_showsWord_c24  i0 T)
def rmX3_showsWord : Room := { frames := 4, cells := 0, slots := 0, locals := 85 }
theorem hdX3_showsWord : yX3_showsWord.cls = yX3_showsWord.cls ∧ yX3_showsWord.cls ≠ "java/lang/invoke/MethodHandle" ∧ yX3_showsWord.cls ≠ "java/lang/invoke/VarHandle" ∧ (parseMethodDescriptor yX3_showsWord.desc).map (fun d => d.parameters.length) = some 1 := by decide +kernel
set_option maxHeartbeats 4000000 in
set_option maxRecDepth 100000 in
theorem kX3_showsWord (l : Launch) (g : Gl) (ad : Nat → Nat) (sz : Nat) (T : M2) (i0 : Nat) (r : Int32) (hii0 : i0 < nJS) (hf : fX3_showsWord i0 T = some r) : MetPI l yX3_showsWord (Cond.code yX3_showsWord cX3_showsWord 3 (some .boolean) :: wsL_law) rmX3_showsWord [.ref (ad 0), .ref (g.2.2.1 i0)] g (wT g ad T) sz r := by
  refine openPI (by decide +kernel) (Nat.le_of_ble_eq_true rfl) ?_
  intro p e s m args below meth c A C hE hA hH ls hl
  have hl : lv_has ls 3 [(0, .ref (ad 0)), (1, .ref (g.2.2.1 i0))] := hl
  have C : Cx p s m args meth c cX3_showsWord 3 (some .boolean) RX3 := C
  obtain ⟨hx, hb, hml, hown, hT, hr, hlk⟩ := id C
  rw [fX3_showsWord] at hf
  have j_24 : ∀  (ls : Array Slot), fX3_showsWord_c24  i0 T = some r → lv_has ls 3 [] → W p l e rmX3_showsWord s m args below meth c s.heap [] 0 0 (QPI below args s r) (F0 m 24 ls []) := by
    intro  ls hf hl
    rw [fX3_showsWord_c24] at hf
    refine lv_iconst (v := 0) hx hb dX3_showsWord_24 (by decide) ?_
    have h1 := Option.some.inj hf
    subst h1
    exact retPI C (by decide) dX3_showsWord_25
  have lp_28 : ∀ (n_28 : Nat) (y2 : Int32) (ls : Array Slot), fX3_showsWord_c28  n_28 y2 i0 T = some r → lv_has ls 3 [(0, .ref (ad 0)), (1, .ref (g.2.2.1 i0)), (2, .int y2)] → W p l e rmX3_showsWord s m args below meth c s.heap [] 0 0 (QPI below args s r) (F0 m 28 ls []) := by
    intro n_28
    induction n_28 with
    | zero =>
      intro y2  ls hf hl
      rw [fX3_showsWord_c28] at hf
      cases hf
    | succ n_28 ih_28 =>
      intro y2  ls hf hl
      rw [fX3_showsWord_c28] at hf
      have j_63 : ∀  (ls : Array Slot), fX3_showsWord_c63  i0 T = some r → lv_has ls 3 [] → W p l e rmX3_showsWord s m args below meth c s.heap [] 0 0 (QPI below args s r) (F0 m 63 ls []) := by
        intro  ls hf hl
        rw [fX3_showsWord_c63] at hf
        refine lv_iconst (v := 1) hx hb dX3_showsWord_63 (by decide) ?_
        have h1 := Option.some.inj hf
        subst h1
        exact retPI C (by decide) dX3_showsWord_64
      have j_55 : ∀  (ls : Array Slot), fX3_showsWord_c55  i0 T = some r → lv_has ls 3 [] → W p l e rmX3_showsWord s m args below meth c s.heap [] 0 0 (QPI below args s r) (F0 m 55 ls []) := by
        intro  ls hf hl
        rw [fX3_showsWord_c55] at hf
        refine lv_iconst (v := 0) hx hb dX3_showsWord_55 (by decide) ?_
        have h1 := Option.some.inj hf
        subst h1
        exact retPI C (by decide) dX3_showsWord_56
      refine lv_iload_n hx hb dX3_showsWord_28 rfl (lv_at hl 2 rfl) ?_
      refine lv_aload_n hx hb dX3_showsWord_29 rfl (lv_at hl 1 rfl) ?_
      obtain ⟨r_13, hc_14, hf⟩ := bind_inv hf
      refine aftPI (runVs C hE hA hH [] rfl rfl (kJ0_length_8abf5 l g ad _ i0 r_13 hii0 hc_14) tw_28_1 tw_28_2 tw_28_3 tw_28_4 tw_28_5 hdJ0_length_8abf5 (str_recv hE hH hii0) rfl rfl ⟨Nat.le_of_ble_eq_true rfl, Nat.le_of_ble_eq_true rfl⟩ rfl hl.1 (rest := [.int y2]) rfl (Nat.le_of_ble_eq_true rfl) dX3_showsWord_30 ⟨Nat.zero_le _, Nat.zero_le _⟩) ?_
      refine lv_icmp_ge (tgt := 63) hx hb dX3_showsWord_33 (by decide) (fun c_15 => ?_) (fun c_15 => ?_)
      · have hf := if_p hf c_15
        exact j_63  ls hf (lv_sub hl [] rfl)
      · have hf := if_n hf c_15
        refine lv_aload_n hx hb dX3_showsWord_36 rfl (lv_at hl 0 rfl) ?_
        refine gf_RX3_9 C hE hH 0 rfl rfl dX3_showsWord_37 ?_
        refine lv_aload_n hx hb dX3_showsWord_40 rfl (lv_at hl 0 rfl) ?_
        refine gf_RX3_22 C hE hH 0 rfl rfl dX3_showsWord_41 ?_
        refine lv_iload_n hx hb dX3_showsWord_44 rfl (lv_at hl 2 rfl) ?_
        refine lv_iadd hx hb dX3_showsWord_45 ?_
        obtain ⟨hi_16, hf⟩ := grd_inv hf
        refine xiald C hE hH 1 rfl hi_16 dX3_showsWord_46 ?_
        refine lv_aload_n hx hb dX3_showsWord_47 rfl (lv_at hl 1 rfl) ?_
        refine lv_iload_n hx hb dX3_showsWord_48 rfl (lv_at hl 2 rfl) ?_
        obtain ⟨r_17, hc_18, hf⟩ := bind_inv hf
        refine aftPI (runVs C hE hA hH [] rfl rfl (kJ0_charAt_5068e l g ad _ i0 y2 r_17 hii0 hc_18) tw_28_13 tw_28_14 tw_28_15 tw_28_4 tw_28_16 hdJ0_charAt_5068e (str_recv hE hH hii0) rfl rfl ⟨Nat.le_of_ble_eq_true rfl, Nat.le_of_ble_eq_true rfl⟩ rfl hl.1 (rest := [.int (T 1 ((T 0 2) + y2).toNatClampNeg)]) rfl (Nat.le_of_ble_eq_true rfl) dX3_showsWord_49 ⟨Nat.zero_le _, Nat.zero_le _⟩) ?_
        refine lv_icmp_eq (tgt := 57) hx hb dX3_showsWord_52 (by decide) (fun c_19 => ?_) (fun c_19 => ?_)
        · have hf := if_p hf c_19
          obtain ⟨v_20, ev_20⟩ : ∃ z : Int32, z = y2 + (1 : Int32) := ⟨_, rfl⟩
          have hf := letb_at hf v_20 ev_20
          refine lv_iinc (v := v_20) (lv' := [(2, .int v_20), (0, .ref (ad 0)), (1, .ref (g.2.2.1 i0))]) hx hb dX3_showsWord_57 hl (k := 2) rfl (by rw [ev_20]; rfl) (by decide) rfl (fun ls hl => ?_)
          refine lv_goto (tgt := 28) hx hb dX3_showsWord_60 (by decide) ?_
          exact ih_28 v_20 ls hf (lv_sub hl [1, 2, 0] rfl)
        · have hf := if_n hf c_19
          exact j_55  ls hf (lv_sub hl [] rfl)
  refine lv_aload_n hx hb dX3_showsWord_0 rfl (lv_at hl 0 rfl) ?_
  refine gf_RX3_19 C hE hH 0 rfl rfl dX3_showsWord_1 ?_
  refine lv_iconst (v := 1) hx hb dX3_showsWord_4 (by decide) ?_
  refine lv_icmp_ne (tgt := 24) hx hb dX3_showsWord_5 (by decide) (fun c_21 => ?_) (fun c_21 => ?_)
  · have hf := if_n hf c_21
    exact j_24  ls hf (lv_sub hl [] rfl)
  · have hf := if_p hf c_21
    refine lv_aload_n hx hb dX3_showsWord_8 rfl (lv_at hl 0 rfl) ?_
    refine gf_RX3_25 C hE hH 0 rfl rfl dX3_showsWord_9 ?_
    refine lv_aload_n hx hb dX3_showsWord_12 rfl (lv_at hl 0 rfl) ?_
    refine gf_RX3_22 C hE hH 0 rfl rfl dX3_showsWord_13 ?_
    refine lv_isub hx hb dX3_showsWord_16 ?_
    refine lv_aload_n hx hb dX3_showsWord_17 rfl (lv_at hl 1 rfl) ?_
    obtain ⟨r_22, hc_23, hf⟩ := bind_inv hf
    refine aftPI (runVs C hE hA hH [] rfl rfl (kJ0_length_8abf5 l g ad _ i0 r_22 hii0 hc_23) tw_28_1 tw_28_2 tw_28_3 tw_28_4 tw_28_5 hdJ0_length_8abf5 (str_recv hE hH hii0) rfl rfl ⟨Nat.le_of_ble_eq_true rfl, Nat.le_of_ble_eq_true rfl⟩ rfl hl.1 (rest := [.int ((T 0 3) - (T 0 2))]) rfl (Nat.le_of_ble_eq_true rfl) dX3_showsWord_18 ⟨Nat.zero_le _, Nat.zero_le _⟩) ?_
    refine lv_icmp_eq (tgt := 26) hx hb dX3_showsWord_21 (by decide) (fun c_24 => ?_) (fun c_24 => ?_)
    · have hf := if_p hf c_24
      refine lv_iconst (v := 0) hx hb dX3_showsWord_26 (by decide) ?_
      refine lv_istore_n (lv' := [(2, .int (0 : Int32)), (0, .ref (ad 0)), (1, .ref (g.2.2.1 i0))]) hx hb dX3_showsWord_27 rfl hl (by decide) rfl (fun ls hl => ?_)
      exact lp_28 _ (0 : Int32) ls hf (lv_sub hl [1, 2, 0] rfl)
    · have hf := if_n hf c_24
      exact j_24  ls hf (lv_sub hl [] rfl)
def fX3_takeWord (i0 : Nat) (T : M2) : Option (Int32 × M2) := (fX3_showsWord i0 T).bind (fun (r_6 : Int32) => (if r_6 = 0 then some ((0 : Int32), T) else (fX3_goToNextToken T).bind (fun (T_9 : M2) => some ((1 : Int32), T_9))))
def rmX3_takeWord : Room := { frames := 5, cells := 0, slots := 0, locals := 107 }
theorem hdX3_takeWord : yX3_takeWord.cls = yX3_takeWord.cls ∧ yX3_takeWord.cls ≠ "java/lang/invoke/MethodHandle" ∧ yX3_takeWord.cls ≠ "java/lang/invoke/VarHandle" ∧ (parseMethodDescriptor yX3_takeWord.desc).map (fun d => d.parameters.length) = some 1 := by decide +kernel
set_option maxHeartbeats 4000000 in
set_option maxRecDepth 100000 in
theorem kX3_takeWord (l : Launch) (g : Gl) (ad : Nat → Nat) (sz : Nat) (T : M2) (i0 : Nat) (r : Int32) (T' : M2) (hii0 : i0 < nJS) (hf : fX3_takeWord i0 T = some (r, T')) : MetI l yX3_takeWord (Cond.code yX3_takeWord cX3_takeWord 2 (some .boolean) :: wsL_law) rmX3_takeWord [.ref (ad 0), .ref (g.2.2.1 i0)] g (wT g ad T) sz r (wT g ad T') := by
  refine openI (by decide +kernel) (Nat.le_of_ble_eq_true rfl) ?_
  intro p e s m args below meth c A C hE hA hH ls hl
  have hl : lv_has ls 2 [(0, .ref (ad 0)), (1, .ref (g.2.2.1 i0))] := hl
  have C : Cx p s m args meth c cX3_takeWord 2 (some .boolean) RX3 := C
  obtain ⟨hx, hb, hml, hown, hT, hr, hlk⟩ := id C
  rw [fX3_takeWord] at hf
  refine lv_aload_n hx hb dX3_takeWord_0 rfl (lv_at hl 0 rfl) ?_
  refine lv_aload_n hx hb dX3_takeWord_1 rfl (lv_at hl 1 rfl) ?_
  obtain ⟨r_6, hc_7, hf⟩ := bind_inv hf
  refine aftPI (runV C hE hA hH [0, 1] nC_T_T_0_1 (sC_T_T_0_1 g ad T) (kX3_showsWord l g ad _ T i0 r_6 hii0 hc_7) tw_30_11 tw_27_22 tw_27_23 tw_1_22 tw_28_0 hdX3_showsWord 0 rfl rfl rfl rfl ⟨Nat.le_of_ble_eq_true rfl, Nat.le_of_ble_eq_true rfl⟩ rfl hl.1 (rest := []) rfl (Nat.le_of_ble_eq_true rfl) dX3_takeWord_2 ⟨Nat.zero_le _, Nat.zero_le _⟩) ?_
  refine lv_if_ne (tgt := 10) hx hb dX3_takeWord_5 (by decide) (fun c_8 => ?_) (fun c_8 => ?_)
  · have hf := if_n hf c_8
    refine lv_aload_n hx hb dX3_takeWord_10 rfl (lv_at hl 0 rfl) ?_
    obtain ⟨T_9, hc_10, hf⟩ := bind_inv hf
    refine aftV (runV C hE hA hH [0, 1] nC_T_T_0_1 (sC_T_T_0_1 g ad T) (kX3_goToNextToken l g ad _ T T_9  hc_10) tw_27_7 tw_27_8 tw_27_9 tw_1_22 tw_27_10 hdX3_goToNextToken 0 rfl rfl rfl rfl ⟨Nat.le_of_ble_eq_true rfl, Nat.le_of_ble_eq_true rfl⟩ rfl hl.1 (rest := []) rfl (Nat.le_of_ble_eq_true rfl) dX3_takeWord_11 ⟨Nat.zero_le _, Nat.zero_le _⟩) hA hH [0, 1] [] (sC_T_T_0_1 g ad T) (sR_T_T_0_1 g ad T) nR_T_T_0_1 dj_T_T_0_1 [0, 1] nP_T_T_0_1 (sP_T_T_0_1 g ad T T_9) (fun H locs hH => ?_)
    refine lv_iconst (v := 1) hx hb dX3_takeWord_14 (by decide) ?_
    have hf := Option.some.inj hf
    obtain ⟨h1, h2⟩ := Prod.mk.inj hf
    subst h1
    subst h2
    exact retI C hH (by decide) dX3_takeWord_15
  · have hf := if_p hf c_8
    refine lv_iconst (v := 0) hx hb dX3_takeWord_8 (by decide) ?_
    have hf := Option.some.inj hf
    obtain ⟨h1, h2⟩ := Prod.mk.inj hf
    subst h1
    subst h2
    exact retI C hH (by decide) dX3_takeWord_9
