def fX5_within_c15  (z0 : Int32) : Option (Int32) := grd (isB z0) (some z0)
def fX5_within_c14   : Option (Int32) := fX5_within_c15  (0 : Int32)
def fX5_within (x1 : Int32) (x2 : Int32) (x3 : Int32) : Option (Int32) := (if x1 < x2 then fX5_within_c14   else (if x3 < x1 then fX5_within_c14   else fX5_within_c15  (1 : Int32)))
def rmX5_within : Room := { frames := 0, cells := 0, slots := 0, locals := 0 }
theorem hdX5_within : yX5_within.cls = yX5_within.cls ∧ yX5_within.cls ≠ "java/lang/invoke/MethodHandle" ∧ yX5_within.cls ≠ "java/lang/invoke/VarHandle" ∧ (parseMethodDescriptor yX5_within.desc).map (fun d => d.parameters.length) = some 3 := by decide +kernel
set_option maxHeartbeats 4000000 in
set_option maxRecDepth 100000 in
theorem kX5_within (l : Launch) (g : Gl) (ad : Nat → Nat) (sz : Nat)  (x1 : Int32) (x2 : Int32) (x3 : Int32) (r : Int32)  (hf : fX5_within x1 x2 x3 = some r) : MetPI l yX5_within (Cond.code yX5_within cX5_within 3 (some .boolean) :: wsL_law) rmX5_within [.int x1, .int x2, .int x3] g ([]) sz r := by
  refine openPI (by decide +kernel) (Nat.le_of_ble_eq_true rfl) ?_
  intro p e s m args below meth c A C hE hA hH ls hl
  have hl : lv_has ls 3 [(0, .int x1), (1, .int x2), (2, .int x3)] := hl
  have C : Cx p s m args meth c cX5_within 3 (some .boolean) RX5 := C
  obtain ⟨hx, hb, hml, hown, hT, hr, hlk⟩ := id C
  rw [fX5_within] at hf
  have j_15 : ∀ (z0 : Int32) (ls : Array Slot), fX5_within_c15  z0 = some r → lv_has ls 3 [] → W p l e rmX5_within s m args below meth c s.heap [] 0 0 (QPI below args s r) (F0 m 15 ls [.int z0]) := by
    intro z0  ls hf hl
    rw [fX5_within_c15] at hf
    obtain ⟨hz, hf⟩ := grd_inv hf
    have h1 := Option.some.inj hf
    subst h1
    exact retPI C (isB_nar hz) dX5_within_15
  have j_14 : ∀  (ls : Array Slot), fX5_within_c14   = some r → lv_has ls 3 [] → W p l e rmX5_within s m args below meth c s.heap [] 0 0 (QPI below args s r) (F0 m 14 ls []) := by
    intro  ls hf hl
    rw [fX5_within_c14] at hf
    refine lv_iconst (v := 0) hx hb dX5_within_14 (by decide) ?_
    exact j_15 (0 : Int32) ls hf (lv_sub hl [] rfl)
  refine lv_iload_n hx hb dX5_within_0 rfl (lv_at hl 0 rfl) ?_
  refine lv_iload_n hx hb dX5_within_1 rfl (lv_at hl 1 rfl) ?_
  refine lv_icmp_lt (tgt := 14) hx hb dX5_within_2 (by decide) (fun c_3 => ?_) (fun c_3 => ?_)
  · have hf := if_p hf c_3
    exact j_14  ls hf (lv_sub hl [] rfl)
  · have hf := if_n hf c_3
    refine lv_iload_n hx hb dX5_within_5 rfl (lv_at hl 0 rfl) ?_
    refine lv_iload_n hx hb dX5_within_6 rfl (lv_at hl 2 rfl) ?_
    refine lv_icmp_gt (tgt := 14) hx hb dX5_within_7 (by decide) (fun c_4 => ?_) (fun c_4 => ?_)
    · have hf := if_p hf c_4
      exact j_14  ls hf (lv_sub hl [] rfl)
    · have hf := if_n hf c_4
      refine lv_iconst (v := 1) hx hb dX5_within_10 (by decide) ?_
      refine lv_goto (tgt := 15) hx hb dX5_within_11 (by decide) ?_
      exact j_15 (1 : Int32) ls hf (lv_sub hl [] rfl)
def fX5_isKind (x1 : Int32) : Option (Int32) := (fX5_within x1 (0 : Int32) (5 : Int32)).bind (fun (r_3 : Int32) => grd (isB r_3) (some r_3))
def rmX5_isKind : Room := { frames := 1, cells := 0, slots := 0, locals := 22 }
theorem hdX5_isKind : yX5_isKind.cls = yX5_isKind.cls ∧ yX5_isKind.cls ≠ "java/lang/invoke/MethodHandle" ∧ yX5_isKind.cls ≠ "java/lang/invoke/VarHandle" ∧ (parseMethodDescriptor yX5_isKind.desc).map (fun d => d.parameters.length) = some 1 := by decide +kernel
set_option maxHeartbeats 4000000 in
set_option maxRecDepth 100000 in
theorem kX5_isKind (l : Launch) (g : Gl) (ad : Nat → Nat) (sz : Nat)  (x1 : Int32) (r : Int32)  (hf : fX5_isKind x1 = some r) : MetPI l yX5_isKind (Cond.code yX5_isKind cX5_isKind 1 (some .boolean) :: wsL_law) rmX5_isKind [.int x1] g ([]) sz r := by
  refine openPI (by decide +kernel) (Nat.le_of_ble_eq_true rfl) ?_
  intro p e s m args below meth c A C hE hA hH ls hl
  have hl : lv_has ls 1 [(0, .int x1)] := hl
  have C : Cx p s m args meth c cX5_isKind 1 (some .boolean) RX5 := C
  obtain ⟨hx, hb, hml, hown, hT, hr, hlk⟩ := id C
  rw [fX5_isKind] at hf
  refine lv_iload_n hx hb dX5_isKind_0 rfl (lv_at hl 0 rfl) ?_
  refine lv_iconst (v := 0) hx hb dX5_isKind_1 (by decide) ?_
  refine lv_iconst (v := 5) hx hb dX5_isKind_2 (by decide) ?_
  obtain ⟨r_3, hc_4, hf⟩ := bind_inv hf
  refine aftPI (runS C hE hA hH [] rfl rfl (kX5_within l g ad _ x1 (0 : Int32) (5 : Int32) r_3  hc_4) tw_4_14 tw_4_15 tw_1_2 tw_4_16 hdX5_within rfl rfl ⟨Nat.le_of_ble_eq_true rfl, Nat.le_of_ble_eq_true rfl⟩ rfl hl.1 (rest := []) rfl (Nat.le_of_ble_eq_true rfl) dX5_isKind_3 ⟨Nat.zero_le _, Nat.zero_le _⟩) ?_
  obtain ⟨hz, hf⟩ := grd_inv hf
  have h1 := Option.some.inj hf
  subst h1
  exact retPI C (isB_nar hz) dX5_isKind_6
def fX5_isWord (x1 : Int32) : Option (Int32) := (fX5_within x1 (0 : Int32) (8 : Int32)).bind (fun (r_3 : Int32) => grd (isB r_3) (some r_3))
def rmX5_isWord : Room := { frames := 1, cells := 0, slots := 0, locals := 22 }
theorem hdX5_isWord : yX5_isWord.cls = yX5_isWord.cls ∧ yX5_isWord.cls ≠ "java/lang/invoke/MethodHandle" ∧ yX5_isWord.cls ≠ "java/lang/invoke/VarHandle" ∧ (parseMethodDescriptor yX5_isWord.desc).map (fun d => d.parameters.length) = some 1 := by decide +kernel
set_option maxHeartbeats 4000000 in
set_option maxRecDepth 100000 in
theorem kX5_isWord (l : Launch) (g : Gl) (ad : Nat → Nat) (sz : Nat)  (x1 : Int32) (r : Int32)  (hf : fX5_isWord x1 = some r) : MetPI l yX5_isWord (Cond.code yX5_isWord cX5_isWord 1 (some .boolean) :: wsL_law) rmX5_isWord [.int x1] g ([]) sz r := by
  refine openPI (by decide +kernel) (Nat.le_of_ble_eq_true rfl) ?_
  intro p e s m args below meth c A C hE hA hH ls hl
  have hl : lv_has ls 1 [(0, .int x1)] := hl
  have C : Cx p s m args meth c cX5_isWord 1 (some .boolean) RX5 := C
  obtain ⟨hx, hb, hml, hown, hT, hr, hlk⟩ := id C
  rw [fX5_isWord] at hf
  refine lv_iload_n hx hb dX5_isWord_0 rfl (lv_at hl 0 rfl) ?_
  refine lv_iconst (v := 0) hx hb dX5_isWord_1 (by decide) ?_
  refine lv_bipush (v := 8) hx hb dX5_isWord_2 (by decide) ?_
  obtain ⟨r_3, hc_4, hf⟩ := bind_inv hf
  refine aftPI (runS C hE hA hH [] rfl rfl (kX5_within l g ad _ x1 (0 : Int32) (8 : Int32) r_3  hc_4) tw_4_14 tw_4_15 tw_1_2 tw_4_16 hdX5_within rfl rfl ⟨Nat.le_of_ble_eq_true rfl, Nat.le_of_ble_eq_true rfl⟩ rfl hl.1 (rest := []) rfl (Nat.le_of_ble_eq_true rfl) dX5_isWord_4 ⟨Nat.zero_le _, Nat.zero_le _⟩) ?_
  obtain ⟨hz, hf⟩ := grd_inv hf
  have h1 := Option.some.inj hf
  subst h1
  exact retPI C (isB_nar hz) dX5_isWord_7
def fX0_isOrIsUnder_c39   : Option (Int32) := some (0 : Int32)
def fX0_isOrIsUnder_c25   : Option (Int32) := some (1 : Int32)
def fX0_isOrIsUnder_c4  : Nat → Int32 → Int32 → Int32 → Option (Int32)
  | 0, _, _, _ => none
  | n + 1, y1, y2, y3 => (if (6 : Int32) ≤ y3 then fX0_isOrIsUnder_c39   else (if y2 < 0 then fX0_isOrIsUnder_c39   else (if (6 : Int32) ≤ y2 then fX0_isOrIsUnder_c39   else (if y2 = y1 then fX0_isOrIsUnder_c25   else grd (inb y2 6) (letb (tabA y2.toNatClampNeg) (fun v_13 : Int32 => letb (y3 + (1 : Int32)) (fun v_14 : Int32 => fX0_isOrIsUnder_c4 n y1 v_13 v_14)))))))
def fX0_isOrIsUnder (x1 : Int32) (x2 : Int32) : Option (Int32) := fX0_isOrIsUnder_c4  FU x2 x1 (0 : Int32)
def rmX0_isOrIsUnder : Room := { frames := 0, cells := 0, slots := 0, locals := 0 }
theorem hdX0_isOrIsUnder : yX0_isOrIsUnder.cls = yX0_isOrIsUnder.cls ∧ yX0_isOrIsUnder.cls ≠ "java/lang/invoke/MethodHandle" ∧ yX0_isOrIsUnder.cls ≠ "java/lang/invoke/VarHandle" ∧ (parseMethodDescriptor yX0_isOrIsUnder.desc).map (fun d => d.parameters.length) = some 2 := by decide +kernel
set_option maxHeartbeats 4000000 in
set_option maxRecDepth 100000 in
theorem kX0_isOrIsUnder (l : Launch) (g : Gl) (ad : Nat → Nat) (sz : Nat)  (x1 : Int32) (x2 : Int32) (r : Int32)  (hf : fX0_isOrIsUnder x1 x2 = some r) : MetPI l yX0_isOrIsUnder (Cond.code yX0_isOrIsUnder cX0_isOrIsUnder 4 (some .boolean) :: wsL_law) rmX0_isOrIsUnder [.int x1, .int x2] g ([]) sz r := by
  refine openPI (by decide +kernel) (Nat.le_of_ble_eq_true rfl) ?_
  intro p e s m args below meth c A C hE hA hH ls hl
  have hl : lv_has ls 4 [(0, .int x1), (1, .int x2)] := hl
  have C : Cx p s m args meth c cX0_isOrIsUnder 4 (some .boolean) RX0 := C
  obtain ⟨hx, hb, hml, hown, hT, hr, hlk⟩ := id C
  rw [fX0_isOrIsUnder] at hf
  have lp_4 : ∀ (n_4 : Nat) (y1 : Int32) (y2 : Int32) (y3 : Int32) (ls : Array Slot), fX0_isOrIsUnder_c4  n_4 y1 y2 y3 = some r → lv_has ls 4 [(1, .int y1), (2, .int y2), (3, .int y3)] → W p l e rmX0_isOrIsUnder s m args below meth c s.heap [] 0 0 (QPI below args s r) (F0 m 4 ls []) := by
    intro n_4
    induction n_4 with
    | zero =>
      intro y1 y2 y3  ls hf hl
      rw [fX0_isOrIsUnder_c4] at hf
      cases hf
    | succ n_4 ih_4 =>
      intro y1 y2 y3  ls hf hl
      rw [fX0_isOrIsUnder_c4] at hf
      have j_39 : ∀  (ls : Array Slot), fX0_isOrIsUnder_c39   = some r → lv_has ls 4 [] → W p l e rmX0_isOrIsUnder s m args below meth c s.heap [] 0 0 (QPI below args s r) (F0 m 39 ls []) := by
        intro  ls hf hl
        rw [fX0_isOrIsUnder_c39] at hf
        refine lv_iconst (v := 0) hx hb dX0_isOrIsUnder_39 (by decide) ?_
        have h1 := Option.some.inj hf
        subst h1
        exact retPI C (by decide) dX0_isOrIsUnder_40
      have j_25 : ∀  (ls : Array Slot), fX0_isOrIsUnder_c25   = some r → lv_has ls 4 [] → W p l e rmX0_isOrIsUnder s m args below meth c s.heap [] 0 0 (QPI below args s r) (F0 m 25 ls []) := by
        intro  ls hf hl
        rw [fX0_isOrIsUnder_c25] at hf
        refine lv_iconst (v := 1) hx hb dX0_isOrIsUnder_25 (by decide) ?_
        have h1 := Option.some.inj hf
        subst h1
        exact retPI C (by decide) dX0_isOrIsUnder_26
      refine lv_iload_n hx hb dX0_isOrIsUnder_4 rfl (lv_at hl 2 rfl) ?_
      refine lv_bipush (v := 6) hx hb dX0_isOrIsUnder_5 (by decide) ?_
      refine lv_icmp_ge (tgt := 39) hx hb dX0_isOrIsUnder_7 (by decide) (fun c_8 => ?_) (fun c_8 => ?_)
      · have hf := if_p hf c_8
        exact j_39  ls hf (lv_sub hl [] rfl)
      · have hf := if_n hf c_8
        refine lv_iload_n hx hb dX0_isOrIsUnder_10 rfl (lv_at hl 1 rfl) ?_
        refine lv_if_lt (tgt := 39) hx hb dX0_isOrIsUnder_11 (by decide) (fun c_9 => ?_) (fun c_9 => ?_)
        · have hf := if_p hf c_9
          exact j_39  ls hf (lv_sub hl [] rfl)
        · have hf := if_n hf c_9
          refine lv_iload_n hx hb dX0_isOrIsUnder_14 rfl (lv_at hl 1 rfl) ?_
          refine lv_bipush (v := 6) hx hb dX0_isOrIsUnder_15 (by decide) ?_
          refine lv_icmp_ge (tgt := 39) hx hb dX0_isOrIsUnder_17 (by decide) (fun c_10 => ?_) (fun c_10 => ?_)
          · have hf := if_p hf c_10
            exact j_39  ls hf (lv_sub hl [] rfl)
          · have hf := if_n hf c_10
            refine lv_iload_n hx hb dX0_isOrIsUnder_20 rfl (lv_at hl 1 rfl) ?_
            refine lv_iload_n hx hb dX0_isOrIsUnder_21 rfl (lv_at hl 0 rfl) ?_
            refine lv_icmp_ne (tgt := 27) hx hb dX0_isOrIsUnder_22 (by decide) (fun c_11 => ?_) (fun c_11 => ?_)
            · have hf := if_n hf c_11
              refine va_gets hx hb hE.2.1.1.1 hH.2.2 hown (hT _ tw_9_22) (fun _ h9 => h9) dX0_isOrIsUnder_27 ?_
              refine lv_iload_n hx hb dX0_isOrIsUnder_30 rfl (lv_at hl 1 rfl) ?_
              obtain ⟨hi_12, hf⟩ := grd_inv hf
              refine va_ti hx hb hE.2.1.1.2 hH.2.2 (inb_in hi_12) rfl dX0_isOrIsUnder_31 ?_
              refine lv_topi (fun v_13 ev_13 => ?_)
              have hf := letb_at hf v_13 ev_13
              refine lv_istore_n (lv' := [(2, .int v_13), (1, .int y1), (3, .int y3)]) hx hb dX0_isOrIsUnder_32 rfl hl (by decide) rfl (fun ls hl => ?_)
              obtain ⟨v_14, ev_14⟩ : ∃ z : Int32, z = y3 + (1 : Int32) := ⟨_, rfl⟩
              have hf := letb_at hf v_14 ev_14
              refine lv_iinc (v := v_14) (lv' := [(3, .int v_14), (2, .int v_13), (1, .int y1)]) hx hb dX0_isOrIsUnder_33 hl (k := 2) rfl (by rw [ev_14]; rfl) (by decide) rfl (fun ls hl => ?_)
              refine lv_goto (tgt := 4) hx hb dX0_isOrIsUnder_36 (by decide) ?_
              exact ih_4 y1 v_13 v_14 ls hf (lv_sub hl [2, 1, 0] rfl)
            · have hf := if_p hf c_11
              exact j_25  ls hf (lv_sub hl [] rfl)
  refine lv_iload_n hx hb dX0_isOrIsUnder_0 rfl (lv_at hl 0 rfl) ?_
  refine lv_istore_n (lv' := [(2, .int x1), (0, .int x1), (1, .int x2)]) hx hb dX0_isOrIsUnder_1 rfl hl (by decide) rfl (fun ls hl => ?_)
  refine lv_iconst (v := 0) hx hb dX0_isOrIsUnder_2 (by decide) ?_
  refine lv_istore_n (lv' := [(3, .int (0 : Int32)), (2, .int x1), (0, .int x1), (1, .int x2)]) hx hb dX0_isOrIsUnder_3 rfl hl (by decide) rfl (fun ls hl => ?_)
  exact lp_4 _ x2 x1 (0 : Int32) ls hf (lv_sub hl [3, 1, 0] rfl)
def fX0_uses_c45  (z0 : Int32) : Option (Int32) := some z0
def fX0_uses (x1 : Int32) (x2 : Int32) : Option (Int32) := (if x1 = 2 then some (1 : Int32) else (if x1 = 3 then some (3 : Int32) else (if x1 = 4 then (if x2 = 0 then fX0_uses_c45  (2 : Int32) else fX0_uses_c45  (1 : Int32)) else (if x1 = 5 then some (2 : Int32) else some (2 : Int32)))))
def rmX0_uses : Room := { frames := 0, cells := 0, slots := 0, locals := 0 }
theorem hdX0_uses : yX0_uses.cls = yX0_uses.cls ∧ yX0_uses.cls ≠ "java/lang/invoke/MethodHandle" ∧ yX0_uses.cls ≠ "java/lang/invoke/VarHandle" ∧ (parseMethodDescriptor yX0_uses.desc).map (fun d => d.parameters.length) = some 2 := by decide +kernel
set_option maxHeartbeats 4000000 in
set_option maxRecDepth 100000 in
theorem kX0_uses (l : Launch) (g : Gl) (ad : Nat → Nat) (sz : Nat)  (x1 : Int32) (x2 : Int32) (r : Int32)  (hf : fX0_uses x1 x2 = some r) : MetPI l yX0_uses (Cond.code yX0_uses cX0_uses 2 (some .int) :: wsL_law) rmX0_uses [.int x1, .int x2] g ([]) sz r := by
  refine openPI (by decide +kernel) (Nat.le_of_ble_eq_true rfl) ?_
  intro p e s m args below meth c A C hE hA hH ls hl
  have hl : lv_has ls 2 [(0, .int x1), (1, .int x2)] := hl
  have C : Cx p s m args meth c cX0_uses 2 (some .int) RX0 := C
  obtain ⟨hx, hb, hml, hown, hT, hr, hlk⟩ := id C
  rw [fX0_uses] at hf
  have j_45 : ∀ (z0 : Int32) (ls : Array Slot), fX0_uses_c45  z0 = some r → lv_has ls 2 [] → W p l e rmX0_uses s m args below meth c s.heap [] 0 0 (QPI below args s r) (F0 m 45 ls [.int z0]) := by
    intro z0  ls hf hl
    rw [fX0_uses_c45] at hf
    have h1 := Option.some.inj hf
    subst h1
    exact retPI C rfl dX0_uses_45
  refine lv_iload_n hx hb dX0_uses_0 rfl (lv_at hl 0 rfl) ?_
  by_cases c_6 : x1 = 2
  · have hf := if_p hf c_6
    refine lv_tableIn (tgt := 32) hx hb dX0_uses_1 (by rw [c_6]; decide) (by rw [c_6]; decide) (by rw [c_6]; rfl) (by decide) ?_
    refine lv_iconst (v := 1) hx hb dX0_uses_32 (by decide) ?_
    have h1 := Option.some.inj hf
    subst h1
    exact retPI C rfl dX0_uses_33
  have hf := if_n hf c_6
  by_cases c_7 : x1 = 3
  · have hf := if_p hf c_7
    refine lv_tableIn (tgt := 34) hx hb dX0_uses_1 (by rw [c_7]; decide) (by rw [c_7]; decide) (by rw [c_7]; rfl) (by decide) ?_
    refine lv_iconst (v := 3) hx hb dX0_uses_34 (by decide) ?_
    have h1 := Option.some.inj hf
    subst h1
    exact retPI C rfl dX0_uses_35
  have hf := if_n hf c_7
  by_cases c_8 : x1 = 4
  · have hf := if_p hf c_8
    refine lv_tableIn (tgt := 36) hx hb dX0_uses_1 (by rw [c_8]; decide) (by rw [c_8]; decide) (by rw [c_8]; rfl) (by decide) ?_
    refine lv_iload_n hx hb dX0_uses_36 rfl (lv_at hl 1 rfl) ?_
    refine lv_if_eq (tgt := 44) hx hb dX0_uses_37 (by decide) (fun c_9 => ?_) (fun c_9 => ?_)
    · have hf := if_p hf c_9
      refine lv_iconst (v := 2) hx hb dX0_uses_44 (by decide) ?_
      exact j_45 (2 : Int32) ls hf (lv_sub hl [] rfl)
    · have hf := if_n hf c_9
      refine lv_iconst (v := 1) hx hb dX0_uses_40 (by decide) ?_
      refine lv_goto (tgt := 45) hx hb dX0_uses_41 (by decide) ?_
      exact j_45 (1 : Int32) ls hf (lv_sub hl [] rfl)
  have hf := if_n hf c_8
  by_cases c_10 : x1 = 5
  · have hf := if_p hf c_10
    refine lv_tableIn (tgt := 46) hx hb dX0_uses_1 (by rw [c_10]; decide) (by rw [c_10]; decide) (by rw [c_10]; rfl) (by decide) ?_
    refine lv_iconst (v := 2) hx hb dX0_uses_46 (by decide) ?_
    have h1 := Option.some.inj hf
    subst h1
    exact retPI C rfl dX0_uses_47
  have hf := if_n hf c_10
  refine lv_tableOut (tgt := 48) hx hb dX0_uses_1 (by have qc_6 := lv_neT c_6 (a := 2) (by decide); have qc_7 := lv_neT c_7 (a := 3) (by decide); have qc_8 := lv_neT c_8 (a := 4) (by decide); have qc_10 := lv_neT c_10 (a := 5) (by decide); omega) (by decide) ?_
  refine lv_iconst (v := 2) hx hb dX0_uses_48 (by decide) ?_
  have h1 := Option.some.inj hf
  subst h1
  exact retPI C rfl dX0_uses_49
def fX0_brings_c57  (y1 : Int32) : Option (Int32) := some ((10 : Int32) * y1)
def fX0_brings (x1 : Int32) (x2 : Int32) : Option (Int32) := (if x1 = 2 then some (((10 : Int32) * x2) / (2 : Int32)) else (if x1 = 3 then some (((10 : Int32) * x2) + (7 : Int32)) else (if x1 = 4 then fX0_brings_c57  x2 else (if x1 = 5 then some ((((10 : Int32) * x2) / (2 : Int32)) + (20 : Int32)) else fX0_brings_c57  x2))))
def rmX0_brings : Room := { frames := 0, cells := 0, slots := 0, locals := 0 }
theorem hdX0_brings : yX0_brings.cls = yX0_brings.cls ∧ yX0_brings.cls ≠ "java/lang/invoke/MethodHandle" ∧ yX0_brings.cls ≠ "java/lang/invoke/VarHandle" ∧ (parseMethodDescriptor yX0_brings.desc).map (fun d => d.parameters.length) = some 2 := by decide +kernel
set_option maxHeartbeats 4000000 in
set_option maxRecDepth 100000 in
theorem kX0_brings (l : Launch) (g : Gl) (ad : Nat → Nat) (sz : Nat)  (x1 : Int32) (x2 : Int32) (r : Int32)  (hf : fX0_brings x1 x2 = some r) : MetPI l yX0_brings (Cond.code yX0_brings cX0_brings 2 (some .int) :: wsL_law) rmX0_brings [.int x1, .int x2] g ([]) sz r := by
  refine openPI (by decide +kernel) (Nat.le_of_ble_eq_true rfl) ?_
  intro p e s m args below meth c A C hE hA hH ls hl
  have hl : lv_has ls 2 [(0, .int x1), (1, .int x2)] := hl
  have C : Cx p s m args meth c cX0_brings 2 (some .int) RX0 := C
  obtain ⟨hx, hb, hml, hown, hT, hr, hlk⟩ := id C
  rw [fX0_brings] at hf
  have j_57 : ∀ (y1 : Int32) (ls : Array Slot), fX0_brings_c57  y1 = some r → lv_has ls 2 [(1, .int y1)] → W p l e rmX0_brings s m args below meth c s.heap [] 0 0 (QPI below args s r) (F0 m 57 ls []) := by
    intro y1  ls hf hl
    rw [fX0_brings_c57] at hf
    refine lv_bipush (v := 10) hx hb dX0_brings_57 (by decide) ?_
    refine lv_iload_n hx hb dX0_brings_59 rfl (lv_at hl 0 rfl) ?_
    refine lv_imul hx hb dX0_brings_60 ?_
    have h1 := Option.some.inj hf
    subst h1
    exact retPI C rfl dX0_brings_61
  refine lv_iload_n hx hb dX0_brings_0 rfl (lv_at hl 0 rfl) ?_
  by_cases c_5 : x1 = 2
  · have hf := if_p hf c_5
    refine lv_tableIn (tgt := 32) hx hb dX0_brings_1 (by rw [c_5]; decide) (by rw [c_5]; decide) (by rw [c_5]; rfl) (by decide) ?_
    refine lv_bipush (v := 10) hx hb dX0_brings_32 (by decide) ?_
    refine lv_iload_n hx hb dX0_brings_34 rfl (lv_at hl 1 rfl) ?_
    refine lv_imul hx hb dX0_brings_35 ?_
    refine lv_iconst (v := 2) hx hb dX0_brings_36 (by decide) ?_
    refine lv_idiv hx hb dX0_brings_37 (by decide) ?_
    have h1 := Option.some.inj hf
    subst h1
    exact retPI C rfl dX0_brings_38
  have hf := if_n hf c_5
  by_cases c_6 : x1 = 3
  · have hf := if_p hf c_6
    refine lv_tableIn (tgt := 39) hx hb dX0_brings_1 (by rw [c_6]; decide) (by rw [c_6]; decide) (by rw [c_6]; rfl) (by decide) ?_
    refine lv_bipush (v := 10) hx hb dX0_brings_39 (by decide) ?_
    refine lv_iload_n hx hb dX0_brings_41 rfl (lv_at hl 1 rfl) ?_
    refine lv_imul hx hb dX0_brings_42 ?_
    refine lv_bipush (v := 7) hx hb dX0_brings_43 (by decide) ?_
    refine lv_iadd hx hb dX0_brings_45 ?_
    have h1 := Option.some.inj hf
    subst h1
    exact retPI C rfl dX0_brings_46
  have hf := if_n hf c_6
  by_cases c_7 : x1 = 4
  · have hf := if_p hf c_7
    refine lv_tableIn (tgt := 57) hx hb dX0_brings_1 (by rw [c_7]; decide) (by rw [c_7]; decide) (by rw [c_7]; rfl) (by decide) ?_
    exact j_57 x2 ls hf (lv_sub hl [1] rfl)
  have hf := if_n hf c_7
  by_cases c_8 : x1 = 5
  · have hf := if_p hf c_8
    refine lv_tableIn (tgt := 47) hx hb dX0_brings_1 (by rw [c_8]; decide) (by rw [c_8]; decide) (by rw [c_8]; rfl) (by decide) ?_
    refine lv_bipush (v := 10) hx hb dX0_brings_47 (by decide) ?_
    refine lv_iload_n hx hb dX0_brings_49 rfl (lv_at hl 1 rfl) ?_
    refine lv_imul hx hb dX0_brings_50 ?_
    refine lv_iconst (v := 2) hx hb dX0_brings_51 (by decide) ?_
    refine lv_idiv hx hb dX0_brings_52 (by decide) ?_
    refine lv_bipush (v := 20) hx hb dX0_brings_53 (by decide) ?_
    refine lv_iadd hx hb dX0_brings_55 ?_
    have h1 := Option.some.inj hf
    subst h1
    exact retPI C rfl dX0_brings_56
  have hf := if_n hf c_8
  refine lv_tableOut (tgt := 57) hx hb dX0_brings_1 (by have qc_5 := lv_neT c_5 (a := 2) (by decide); have qc_6 := lv_neT c_6 (a := 3) (by decide); have qc_7 := lv_neT c_7 (a := 4) (by decide); have qc_8 := lv_neT c_8 (a := 5) (by decide); omega) (by decide) ?_
  exact j_57 x2 ls hf (lv_sub hl [1] rfl)
def fX0_tells (x1 : Int32) (x2 : Int32) : Option (Int32) := (if x1 = 1 then some ((2 : Int32) * x2) else (if x1 = 2 then some (1 : Int32) else (if x1 = 3 then some (x2 - (1 : Int32)) else (if x1 = 4 then some (((2 : Int32) * x2) + (1 : Int32)) else (if x1 = 5 then some ((1 : Int32) + (x2 / (3 : Int32))) else some x2)))))
def rmX0_tells : Room := { frames := 0, cells := 0, slots := 0, locals := 0 }
theorem hdX0_tells : yX0_tells.cls = yX0_tells.cls ∧ yX0_tells.cls ≠ "java/lang/invoke/MethodHandle" ∧ yX0_tells.cls ≠ "java/lang/invoke/VarHandle" ∧ (parseMethodDescriptor yX0_tells.desc).map (fun d => d.parameters.length) = some 2 := by decide +kernel
set_option maxHeartbeats 4000000 in
set_option maxRecDepth 100000 in
theorem kX0_tells (l : Launch) (g : Gl) (ad : Nat → Nat) (sz : Nat)  (x1 : Int32) (x2 : Int32) (r : Int32)  (hf : fX0_tells x1 x2 = some r) : MetPI l yX0_tells (Cond.code yX0_tells cX0_tells 2 (some .int) :: wsL_law) rmX0_tells [.int x1, .int x2] g ([]) sz r := by
  refine openPI (by decide +kernel) (Nat.le_of_ble_eq_true rfl) ?_
  intro p e s m args below meth c A C hE hA hH ls hl
  have hl : lv_has ls 2 [(0, .int x1), (1, .int x2)] := hl
  have C : Cx p s m args meth c cX0_tells 2 (some .int) RX0 := C
  obtain ⟨hx, hb, hml, hown, hT, hr, hlk⟩ := id C
  rw [fX0_tells] at hf
  refine lv_iload_n hx hb dX0_tells_0 rfl (lv_at hl 0 rfl) ?_
  by_cases c_6 : x1 = 1
  · have hf := if_p hf c_6
    refine lv_tableIn (tgt := 36) hx hb dX0_tells_1 (by rw [c_6]; decide) (by rw [c_6]; decide) (by rw [c_6]; rfl) (by decide) ?_
    refine lv_iconst (v := 2) hx hb dX0_tells_36 (by decide) ?_
    refine lv_iload_n hx hb dX0_tells_37 rfl (lv_at hl 1 rfl) ?_
    refine lv_imul hx hb dX0_tells_38 ?_
    have h1 := Option.some.inj hf
    subst h1
    exact retPI C rfl dX0_tells_39
  have hf := if_n hf c_6
  by_cases c_7 : x1 = 2
  · have hf := if_p hf c_7
    refine lv_tableIn (tgt := 40) hx hb dX0_tells_1 (by rw [c_7]; decide) (by rw [c_7]; decide) (by rw [c_7]; rfl) (by decide) ?_
    refine lv_iconst (v := 1) hx hb dX0_tells_40 (by decide) ?_
    have h1 := Option.some.inj hf
    subst h1
    exact retPI C rfl dX0_tells_41
  have hf := if_n hf c_7
  by_cases c_8 : x1 = 3
  · have hf := if_p hf c_8
    refine lv_tableIn (tgt := 42) hx hb dX0_tells_1 (by rw [c_8]; decide) (by rw [c_8]; decide) (by rw [c_8]; rfl) (by decide) ?_
    refine lv_iload_n hx hb dX0_tells_42 rfl (lv_at hl 1 rfl) ?_
    refine lv_iconst (v := 1) hx hb dX0_tells_43 (by decide) ?_
    refine lv_isub hx hb dX0_tells_44 ?_
    have h1 := Option.some.inj hf
    subst h1
    exact retPI C rfl dX0_tells_45
  have hf := if_n hf c_8
  by_cases c_9 : x1 = 4
  · have hf := if_p hf c_9
    refine lv_tableIn (tgt := 46) hx hb dX0_tells_1 (by rw [c_9]; decide) (by rw [c_9]; decide) (by rw [c_9]; rfl) (by decide) ?_
    refine lv_iconst (v := 2) hx hb dX0_tells_46 (by decide) ?_
    refine lv_iload_n hx hb dX0_tells_47 rfl (lv_at hl 1 rfl) ?_
    refine lv_imul hx hb dX0_tells_48 ?_
    refine lv_iconst (v := 1) hx hb dX0_tells_49 (by decide) ?_
    refine lv_iadd hx hb dX0_tells_50 ?_
    have h1 := Option.some.inj hf
    subst h1
    exact retPI C rfl dX0_tells_51
  have hf := if_n hf c_9
  by_cases c_10 : x1 = 5
  · have hf := if_p hf c_10
    refine lv_tableIn (tgt := 52) hx hb dX0_tells_1 (by rw [c_10]; decide) (by rw [c_10]; decide) (by rw [c_10]; rfl) (by decide) ?_
    refine lv_iconst (v := 1) hx hb dX0_tells_52 (by decide) ?_
    refine lv_iload_n hx hb dX0_tells_53 rfl (lv_at hl 1 rfl) ?_
    refine lv_iconst (v := 3) hx hb dX0_tells_54 (by decide) ?_
    refine lv_idiv hx hb dX0_tells_55 (by decide) ?_
    refine lv_iadd hx hb dX0_tells_56 ?_
    have h1 := Option.some.inj hf
    subst h1
    exact retPI C rfl dX0_tells_57
  have hf := if_n hf c_10
  refine lv_tableOut (tgt := 58) hx hb dX0_tells_1 (by have qc_6 := lv_neT c_6 (a := 1) (by decide); have qc_7 := lv_neT c_7 (a := 2) (by decide); have qc_8 := lv_neT c_8 (a := 3) (by decide); have qc_9 := lv_neT c_9 (a := 4) (by decide); have qc_10 := lv_neT c_10 (a := 5) (by decide); omega) (by decide) ?_
  refine lv_iload_n hx hb dX0_tells_58 rfl (lv_at hl 1 rfl) ?_
  have h1 := Option.some.inj hf
  subst h1
  exact retPI C rfl dX0_tells_59
def fJ9_floorMod_7cf53_c18  (y2 : Int32) : Option (Int32) := some y2
def fJ9_floorMod_7cf53 (x1 : Int32) (x2 : Int32) : Option (Int32) := grd (decide (¬ x2 = 0)) (letb (x1 - x1 / x2 * x2) (fun v_4 : Int32 => (if 0 ≤ (x1 ^^^ x2) then fJ9_floorMod_7cf53_c18  v_4 else (if v_4 = 0 then fJ9_floorMod_7cf53_c18  v_4 else some (v_4 + x2)))))
def rmJ9_floorMod_7cf53 : Room := { frames := 0, cells := 0, slots := 0, locals := 0 }
theorem hdJ9_floorMod_7cf53 : yJ9_floorMod_7cf53.cls = yJ9_floorMod_7cf53.cls ∧ yJ9_floorMod_7cf53.cls ≠ "java/lang/invoke/MethodHandle" ∧ yJ9_floorMod_7cf53.cls ≠ "java/lang/invoke/VarHandle" ∧ (parseMethodDescriptor yJ9_floorMod_7cf53.desc).map (fun d => d.parameters.length) = some 2 := by decide +kernel
set_option maxHeartbeats 4000000 in
set_option maxRecDepth 100000 in
theorem kJ9_floorMod_7cf53 (l : Launch) (g : Gl) (ad : Nat → Nat) (sz : Nat)  (x1 : Int32) (x2 : Int32) (r : Int32)  (hf : fJ9_floorMod_7cf53 x1 x2 = some r) : MetPI l yJ9_floorMod_7cf53 (Cond.code yJ9_floorMod_7cf53 cJ9_floorMod_7cf53 3 (some .int) :: wsL_law) rmJ9_floorMod_7cf53 [.int x1, .int x2] g ([]) sz r := by
  refine openPI (by decide +kernel) (Nat.le_of_ble_eq_true rfl) ?_
  intro p e s m args below meth c A C hE hA hH ls hl
  have hl : lv_has ls 3 [(0, .int x1), (1, .int x2)] := hl
  have C : Cx p s m args meth c cJ9_floorMod_7cf53 3 (some .int) RJ9 := C
  obtain ⟨hx, hb, hml, hown, hT, hr, hlk⟩ := id C
  rw [fJ9_floorMod_7cf53] at hf
  have j_18 : ∀ (y2 : Int32) (ls : Array Slot), fJ9_floorMod_7cf53_c18  y2 = some r → lv_has ls 3 [(2, .int y2)] → W p l e rmJ9_floorMod_7cf53 s m args below meth c s.heap [] 0 0 (QPI below args s r) (F0 m 18 ls []) := by
    intro y2  ls hf hl
    rw [fJ9_floorMod_7cf53_c18] at hf
    refine lv_iload_n hx hb dJ9_floorMod_7cf53_18 rfl (lv_at hl 0 rfl) ?_
    have h1 := Option.some.inj hf
    subst h1
    exact retPI C rfl dJ9_floorMod_7cf53_19
  refine lv_iload_n hx hb dJ9_floorMod_7cf53_0 rfl (lv_at hl 0 rfl) ?_
  refine lv_iload_n hx hb dJ9_floorMod_7cf53_1 rfl (lv_at hl 1 rfl) ?_
  obtain ⟨hg, hf⟩ := grd_inv hf
  refine lv_irem hx hb dJ9_floorMod_7cf53_2 (of_decide_eq_true hg) ?_
  refine lv_topi (fun v_4 ev_4 => ?_)
  have hf := letb_at hf v_4 ev_4
  refine lv_istore_n (lv' := [(2, .int v_4), (0, .int x1), (1, .int x2)]) hx hb dJ9_floorMod_7cf53_3 rfl hl (by decide) rfl (fun ls hl => ?_)
  refine lv_iload_n hx hb dJ9_floorMod_7cf53_4 rfl (lv_at hl 1 rfl) ?_
  refine lv_iload_n hx hb dJ9_floorMod_7cf53_5 rfl (lv_at hl 2 rfl) ?_
  refine lv_ixor hx hb dJ9_floorMod_7cf53_6 ?_
  refine lv_if_ge (tgt := 18) hx hb dJ9_floorMod_7cf53_7 (by decide) (fun c_5 => ?_) (fun c_5 => ?_)
  · have hf := if_p hf c_5
    exact j_18 v_4 ls hf (lv_sub hl [0] rfl)
  · have hf := if_n hf c_5
    refine lv_iload_n hx hb dJ9_floorMod_7cf53_10 rfl (lv_at hl 0 rfl) ?_
    refine lv_if_eq (tgt := 18) hx hb dJ9_floorMod_7cf53_11 (by decide) (fun c_6 => ?_) (fun c_6 => ?_)
    · have hf := if_p hf c_6
      exact j_18 v_4 ls hf (lv_sub hl [0] rfl)
    · have hf := if_n hf c_6
      refine lv_iload_n hx hb dJ9_floorMod_7cf53_14 rfl (lv_at hl 0 rfl) ?_
      refine lv_iload_n hx hb dJ9_floorMod_7cf53_15 rfl (lv_at hl 2 rfl) ?_
      refine lv_iadd hx hb dJ9_floorMod_7cf53_16 ?_
      have h1 := Option.some.inj hf
      subst h1
      exact retPI C rfl dJ9_floorMod_7cf53_17
def fJ6_bitCount_0f7a4 (x1 : Int32) : Option (Int32) := letb (x1 - (((x1.toUInt32 >>> ((1 : Int32).toUInt32 &&& Int32.toUInt32 31)).toInt32) &&& (1431655765 : Int32))) (fun v_6 : Int32 => letb ((v_6 &&& (858993459 : Int32)) + (((v_6.toUInt32 >>> ((2 : Int32).toUInt32 &&& Int32.toUInt32 31)).toInt32) &&& (858993459 : Int32))) (fun v_7 : Int32 => letb ((v_7 + ((v_7.toUInt32 >>> ((4 : Int32).toUInt32 &&& Int32.toUInt32 31)).toInt32)) &&& (252645135 : Int32)) (fun v_8 : Int32 => letb (v_8 + ((v_8.toUInt32 >>> ((8 : Int32).toUInt32 &&& Int32.toUInt32 31)).toInt32)) (fun v_9 : Int32 => letb (v_9 + ((v_9.toUInt32 >>> ((16 : Int32).toUInt32 &&& Int32.toUInt32 31)).toInt32)) (fun v_10 : Int32 => some (v_10 &&& (63 : Int32)))))))
def rmJ6_bitCount_0f7a4 : Room := { frames := 0, cells := 0, slots := 0, locals := 0 }
theorem hdJ6_bitCount_0f7a4 : yJ6_bitCount_0f7a4.cls = yJ6_bitCount_0f7a4.cls ∧ yJ6_bitCount_0f7a4.cls ≠ "java/lang/invoke/MethodHandle" ∧ yJ6_bitCount_0f7a4.cls ≠ "java/lang/invoke/VarHandle" ∧ (parseMethodDescriptor yJ6_bitCount_0f7a4.desc).map (fun d => d.parameters.length) = some 1 := by decide +kernel
set_option maxHeartbeats 4000000 in
set_option maxRecDepth 100000 in
theorem kJ6_bitCount_0f7a4 (l : Launch) (g : Gl) (ad : Nat → Nat) (sz : Nat)  (x1 : Int32) (r : Int32)  (hf : fJ6_bitCount_0f7a4 x1 = some r) : MetPI l yJ6_bitCount_0f7a4 (Cond.code yJ6_bitCount_0f7a4 cJ6_bitCount_0f7a4 1 (some .int) :: wsL_law) rmJ6_bitCount_0f7a4 [.int x1] g ([]) sz r := by
  refine openPI (by decide +kernel) (Nat.le_of_ble_eq_true rfl) ?_
  intro p e s m args below meth c A C hE hA hH ls hl
  have hl : lv_has ls 1 [(0, .int x1)] := hl
  have C : Cx p s m args meth c cJ6_bitCount_0f7a4 1 (some .int) RJ6 := C
  obtain ⟨hx, hb, hml, hown, hT, hr, hlk⟩ := id C
  rw [fJ6_bitCount_0f7a4] at hf
  refine lv_iload_n hx hb dJ6_bitCount_0f7a4_0 rfl (lv_at hl 0 rfl) ?_
  refine lv_iload_n hx hb dJ6_bitCount_0f7a4_1 rfl (lv_at hl 0 rfl) ?_
  refine lv_iconst (v := 1) hx hb dJ6_bitCount_0f7a4_2 (by decide) ?_
  refine lv_iushr hx hb dJ6_bitCount_0f7a4_3 rfl ?_
  refine lv_ldcw hx hb hown (hT _ tw_23_1) dJ6_bitCount_0f7a4_4 ?_
  refine lv_iand hx hb dJ6_bitCount_0f7a4_7 ?_
  refine lv_isub hx hb dJ6_bitCount_0f7a4_8 ?_
  refine lv_topi (fun v_6 ev_6 => ?_)
  have hf := letb_at hf v_6 ev_6
  refine lv_istore_n (lv' := [(0, .int v_6)]) hx hb dJ6_bitCount_0f7a4_9 rfl hl (by decide) rfl (fun ls hl => ?_)
  refine lv_iload_n hx hb dJ6_bitCount_0f7a4_10 rfl (lv_at hl 0 rfl) ?_
  refine lv_ldcw hx hb hown (hT _ tw_23_2) dJ6_bitCount_0f7a4_11 ?_
  refine lv_iand hx hb dJ6_bitCount_0f7a4_14 ?_
  refine lv_iload_n hx hb dJ6_bitCount_0f7a4_15 rfl (lv_at hl 0 rfl) ?_
  refine lv_iconst (v := 2) hx hb dJ6_bitCount_0f7a4_16 (by decide) ?_
  refine lv_iushr hx hb dJ6_bitCount_0f7a4_17 rfl ?_
  refine lv_ldcw hx hb hown (hT _ tw_23_2) dJ6_bitCount_0f7a4_18 ?_
  refine lv_iand hx hb dJ6_bitCount_0f7a4_21 ?_
  refine lv_iadd hx hb dJ6_bitCount_0f7a4_22 ?_
  refine lv_topi (fun v_7 ev_7 => ?_)
  have hf := letb_at hf v_7 ev_7
  refine lv_istore_n (lv' := [(0, .int v_7)]) hx hb dJ6_bitCount_0f7a4_23 rfl hl (by decide) rfl (fun ls hl => ?_)
  refine lv_iload_n hx hb dJ6_bitCount_0f7a4_24 rfl (lv_at hl 0 rfl) ?_
  refine lv_iload_n hx hb dJ6_bitCount_0f7a4_25 rfl (lv_at hl 0 rfl) ?_
  refine lv_iconst (v := 4) hx hb dJ6_bitCount_0f7a4_26 (by decide) ?_
  refine lv_iushr hx hb dJ6_bitCount_0f7a4_27 rfl ?_
  refine lv_iadd hx hb dJ6_bitCount_0f7a4_28 ?_
  refine lv_ldcw hx hb hown (hT _ tw_23_3) dJ6_bitCount_0f7a4_29 ?_
  refine lv_iand hx hb dJ6_bitCount_0f7a4_32 ?_
  refine lv_topi (fun v_8 ev_8 => ?_)
  have hf := letb_at hf v_8 ev_8
  refine lv_istore_n (lv' := [(0, .int v_8)]) hx hb dJ6_bitCount_0f7a4_33 rfl hl (by decide) rfl (fun ls hl => ?_)
  refine lv_iload_n hx hb dJ6_bitCount_0f7a4_34 rfl (lv_at hl 0 rfl) ?_
  refine lv_iload_n hx hb dJ6_bitCount_0f7a4_35 rfl (lv_at hl 0 rfl) ?_
  refine lv_bipush (v := 8) hx hb dJ6_bitCount_0f7a4_36 (by decide) ?_
  refine lv_iushr hx hb dJ6_bitCount_0f7a4_38 rfl ?_
  refine lv_iadd hx hb dJ6_bitCount_0f7a4_39 ?_
  refine lv_topi (fun v_9 ev_9 => ?_)
  have hf := letb_at hf v_9 ev_9
  refine lv_istore_n (lv' := [(0, .int v_9)]) hx hb dJ6_bitCount_0f7a4_40 rfl hl (by decide) rfl (fun ls hl => ?_)
  refine lv_iload_n hx hb dJ6_bitCount_0f7a4_41 rfl (lv_at hl 0 rfl) ?_
  refine lv_iload_n hx hb dJ6_bitCount_0f7a4_42 rfl (lv_at hl 0 rfl) ?_
  refine lv_bipush (v := 16) hx hb dJ6_bitCount_0f7a4_43 (by decide) ?_
  refine lv_iushr hx hb dJ6_bitCount_0f7a4_45 rfl ?_
  refine lv_iadd hx hb dJ6_bitCount_0f7a4_46 ?_
  refine lv_topi (fun v_10 ev_10 => ?_)
  have hf := letb_at hf v_10 ev_10
  refine lv_istore_n (lv' := [(0, .int v_10)]) hx hb dJ6_bitCount_0f7a4_47 rfl hl (by decide) rfl (fun ls hl => ?_)
  refine lv_iload_n hx hb dJ6_bitCount_0f7a4_48 rfl (lv_at hl 0 rfl) ?_
  refine lv_bipush (v := 63) hx hb dJ6_bitCount_0f7a4_49 (by decide) ?_
  refine lv_iand hx hb dJ6_bitCount_0f7a4_51 ?_
  have h1 := Option.some.inj hf
  subst h1
  exact retPI C rfl dJ6_bitCount_0f7a4_52
