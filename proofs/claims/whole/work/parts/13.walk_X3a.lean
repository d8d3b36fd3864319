def fX3_append_c29  (T : M2) : Option (M2) := some T
def fX3_append (x1 : Int32) (T : M2) : Option (M2) := (if (120 : Int32) ≤ (T 0 0) then fX3_append_c29  T else grd (inb (T 0 0) 120) (letb (st2 T 1 (upd (T 1) (T 0 0).toNatClampNeg x1)) (fun T_7 : M2 => letb (st2 T_7 0 (upd (T_7 0) 0 ((T_7 0 0) + (1 : Int32)))) (fun T_8 : M2 => fX3_append_c29  T_8))))
def rmX3_append : Room := { frames := 0, cells := 0, slots := 0, locals := 0 }
theorem hdX3_append : yX3_append.cls = yX3_append.cls ∧ yX3_append.cls ≠ "java/lang/invoke/MethodHandle" ∧ yX3_append.cls ≠ "java/lang/invoke/VarHandle" ∧ (parseMethodDescriptor yX3_append.desc).map (fun d => d.parameters.length) = some 1 := by decide +kernel
set_option maxHeartbeats 4000000 in
set_option maxRecDepth 100000 in
theorem kX3_append (l : Launch) (g : Gl) (ad : Nat → Nat) (sz : Nat) (T : M2) (x1 : Int32) (T' : M2)  (hf : fX3_append x1 T = some T') : MetV l yX3_append (Cond.code yX3_append cX3_append 2 none :: wsL_law) rmX3_append [.ref (ad 0), .int x1] g (wT g ad T) sz (wT g ad T') := by
  refine openV (by decide +kernel) (Nat.le_of_ble_eq_true rfl) ?_
  intro p e s m args below meth c A C hE hA hH ls hl
  have hl : lv_has ls 2 [(0, .ref (ad 0)), (1, .int x1)] := hl
  have C : Cx p s m args meth c cX3_append 2 none RX3 := C
  obtain ⟨hx, hb, hml, hown, hT, hr, hlk⟩ := id C
  rw [fX3_append] at hf
  have j_29 : ∀ (T : M2) (H : Heap) (locs : List Loc) (ls : Array Slot), fX3_append_c29  T = some T' → Hp g A s H locs (wT g ad T) → lv_has ls 2 [] → W p l e rmX3_append s m args below meth c H locs 0 0 (QV g A below args s (wT g ad T')) (F0 m 29 ls []) := by
    intro T H locs  ls hf hH hl
    rw [fX3_append_c29] at hf
    have h1 := Option.some.inj hf
    subst h1
    exact retV C hH dX3_append_29
  refine lv_aload_n hx hb dX3_append_0 rfl (lv_at hl 0 rfl) ?_
  refine gf_RX3_15 C hE hH 0 rfl rfl dX3_append_1 ?_
  refine lv_bipush (v := 120) hx hb dX3_append_4 (by decide) ?_
  refine lv_icmp_ge (tgt := 29) hx hb dX3_append_6 (by decide) (fun c_5 => ?_) (fun c_5 => ?_)
  · have hf := if_p hf c_5
    exact j_29 T _ _ ls hf hH (lv_sub hl [] rfl)
  · have hf := if_n hf c_5
    refine lv_aload_n hx hb dX3_append_9 rfl (lv_at hl 0 rfl) ?_
    refine gf_RX3_9 C hE hH 0 rfl rfl dX3_append_10 ?_
    refine lv_aload_n hx hb dX3_append_13 rfl (lv_at hl 0 rfl) ?_
    refine gf_RX3_15 C hE hH 0 rfl rfl dX3_append_14 ?_
    refine lv_iload_n hx hb dX3_append_17 rfl (lv_at hl 1 rfl) ?_
    obtain ⟨hi_6, hf⟩ := grd_inv hf
    refine xiast C hE hH 1 rfl hi_6 (fun q : M2 => wT g ad q) (st2 T 1 (upd (T 1) (T 0 0).toNatClampNeg x1)) rfl dX3_append_18 (fun T_7 eT_7 H locs hH => ?_)
    have hf := letb_at hf T_7 eT_7
    refine lv_aload_n hx hb dX3_append_19 rfl (lv_at hl 0 rfl) ?_
    refine lv_dup hx hb dX3_append_20 rfl ?_
    refine gf_RX3_15 C hE hH 0 rfl rfl dX3_append_21 ?_
    refine lv_iconst (v := 1) hx hb dX3_append_24 (by decide) ?_
    refine lv_iadd hx hb dX3_append_25 ?_
    refine pf_RX3_15 C hE hH 0 rfl rfl rfl (Nat.le_of_ble_eq_true rfl) (fun q : M2 => wT g ad q) (st2 T_7 0 (upd (T_7 0) 0 ((T_7 0 0) + (1 : Int32)))) rfl dX3_append_26 (fun T_8 eT_8 H locs hH => ?_)
    have hf := letb_at hf T_8 eT_8
    exact j_29 T_8 _ _ ls hf hH (lv_sub hl [] rfl)
def fX3_sortOf_c39  (z0 : Int32) : Option (Int32) := some z0
def fX3_sortOf_c28  (y0 : Int32) : Option (Int32) := (if y0 = (59 : Int32) then fX3_sortOf_c39  (3 : Int32) else fX3_sortOf_c39  (4 : Int32))
def fX3_sortOf_c14  (y0 : Int32) : Option (Int32) := (if y0 < (48 : Int32) then fX3_sortOf_c28  y0 else (if (57 : Int32) < y0 then fX3_sortOf_c28  y0 else some (2 : Int32)))
def fX3_sortOf (x1 : Int32) : Option (Int32) := (if x1 < (97 : Int32) then fX3_sortOf_c14  x1 else (if (122 : Int32) < x1 then fX3_sortOf_c14  x1 else some (1 : Int32)))
def rmX3_sortOf : Room := { frames := 0, cells := 0, slots := 0, locals := 0 }
theorem hdX3_sortOf : yX3_sortOf.cls = yX3_sortOf.cls ∧ yX3_sortOf.cls ≠ "java/lang/invoke/MethodHandle" ∧ yX3_sortOf.cls ≠ "java/lang/invoke/VarHandle" ∧ (parseMethodDescriptor yX3_sortOf.desc).map (fun d => d.parameters.length) = some 1 := by decide +kernel
set_option maxHeartbeats 4000000 in
set_option maxRecDepth 100000 in
theorem kX3_sortOf (l : Launch) (g : Gl) (ad : Nat → Nat) (sz : Nat)  (x1 : Int32) (r : Int32)  (hf : fX3_sortOf x1 = some r) : MetPI l yX3_sortOf (Cond.code yX3_sortOf cX3_sortOf 1 (some .int) :: wsL_law) rmX3_sortOf [.int x1] g ([]) sz r := by
  refine openPI (by decide +kernel) (Nat.le_of_ble_eq_true rfl) ?_
  intro p e s m args below meth c A C hE hA hH ls hl
  have hl : lv_has ls 1 [(0, .int x1)] := hl
  have C : Cx p s m args meth c cX3_sortOf 1 (some .int) RX3 := C
  obtain ⟨hx, hb, hml, hown, hT, hr, hlk⟩ := id C
  rw [fX3_sortOf] at hf
  have j_14 : ∀ (y0 : Int32) (ls : Array Slot), fX3_sortOf_c14  y0 = some r → lv_has ls 1 [(0, .int y0)] → W p l e rmX3_sortOf s m args below meth c s.heap [] 0 0 (QPI below args s r) (F0 m 14 ls []) := by
    intro y0  ls hf hl
    rw [fX3_sortOf_c14] at hf
    have j_28 : ∀ (y0 : Int32) (ls : Array Slot), fX3_sortOf_c28  y0 = some r → lv_has ls 1 [(0, .int y0)] → W p l e rmX3_sortOf s m args below meth c s.heap [] 0 0 (QPI below args s r) (F0 m 28 ls []) := by
      intro y0  ls hf hl
      rw [fX3_sortOf_c28] at hf
      have j_39 : ∀ (z0 : Int32) (ls : Array Slot), fX3_sortOf_c39  z0 = some r → lv_has ls 1 [] → W p l e rmX3_sortOf s m args below meth c s.heap [] 0 0 (QPI below args s r) (F0 m 39 ls [.int z0]) := by
        intro z0  ls hf hl
        rw [fX3_sortOf_c39] at hf
        have h1 := Option.some.inj hf
        subst h1
        exact retPI C rfl dX3_sortOf_39
      refine lv_iload_n hx hb dX3_sortOf_28 rfl (lv_at hl 0 rfl) ?_
      refine lv_bipush (v := 59) hx hb dX3_sortOf_29 (by decide) ?_
      refine lv_icmp_ne (tgt := 38) hx hb dX3_sortOf_31 (by decide) (fun c_6 => ?_) (fun c_6 => ?_)
      · have hf := if_n hf c_6
        refine lv_iconst (v := 4) hx hb dX3_sortOf_38 (by decide) ?_
        exact j_39 (4 : Int32) ls hf (lv_sub hl [] rfl)
      · have hf := if_p hf c_6
        refine lv_iconst (v := 3) hx hb dX3_sortOf_34 (by decide) ?_
        refine lv_goto (tgt := 39) hx hb dX3_sortOf_35 (by decide) ?_
        exact j_39 (3 : Int32) ls hf (lv_sub hl [] rfl)
    refine lv_iload_n hx hb dX3_sortOf_14 rfl (lv_at hl 0 rfl) ?_
    refine lv_bipush (v := 48) hx hb dX3_sortOf_15 (by decide) ?_
    refine lv_icmp_lt (tgt := 28) hx hb dX3_sortOf_17 (by decide) (fun c_7 => ?_) (fun c_7 => ?_)
    · have hf := if_p hf c_7
      exact j_28 y0 ls hf (lv_sub hl [0] rfl)
    · have hf := if_n hf c_7
      refine lv_iload_n hx hb dX3_sortOf_20 rfl (lv_at hl 0 rfl) ?_
      refine lv_bipush (v := 57) hx hb dX3_sortOf_21 (by decide) ?_
      refine lv_icmp_gt (tgt := 28) hx hb dX3_sortOf_23 (by decide) (fun c_8 => ?_) (fun c_8 => ?_)
      · have hf := if_p hf c_8
        exact j_28 y0 ls hf (lv_sub hl [0] rfl)
      · have hf := if_n hf c_8
        refine lv_iconst (v := 2) hx hb dX3_sortOf_26 (by decide) ?_
        have h1 := Option.some.inj hf
        subst h1
        exact retPI C rfl dX3_sortOf_27
  refine lv_iload_n hx hb dX3_sortOf_0 rfl (lv_at hl 0 rfl) ?_
  refine lv_bipush (v := 97) hx hb dX3_sortOf_1 (by decide) ?_
  refine lv_icmp_lt (tgt := 14) hx hb dX3_sortOf_3 (by decide) (fun c_9 => ?_) (fun c_9 => ?_)
  · have hf := if_p hf c_9
    exact j_14 x1 ls hf (lv_sub hl [0] rfl)
  · have hf := if_n hf c_9
    refine lv_iload_n hx hb dX3_sortOf_6 rfl (lv_at hl 0 rfl) ?_
    refine lv_bipush (v := 122) hx hb dX3_sortOf_7 (by decide) ?_
    refine lv_icmp_gt (tgt := 14) hx hb dX3_sortOf_9 (by decide) (fun c_10 => ?_) (fun c_10 => ?_)
    · have hf := if_p hf c_10
      exact j_14 x1 ls hf (lv_sub hl [0] rfl)
    · have hf := if_n hf c_10
      refine lv_iconst (v := 1) hx hb dX3_sortOf_12 (by decide) ?_
      have h1 := Option.some.inj hf
      subst h1
      exact retPI C rfl dX3_sortOf_13
def fX3_goToNextToken_c189  (T : M2) : Option (M2) := some T
def fX3_goToNextToken_c171  (T : M2) : Option (M2) := (if (T 0 1) = (3 : Int32) then letb (st2 T 0 (upd (T 0) 3 ((T 0 2) + (1 : Int32)))) (fun T_25 : M2 => fX3_goToNextToken_c189  T_25) else fX3_goToNextToken_c189  T)
def fX3_goToNextToken_c158 (k_90 : M2 → Option (M2)) (T : M2) : Option (M2) := letb (st2 T 0 (upd (T 0) 3 ((T 0 3) + (1 : Int32)))) (fun T_26 : M2 => k_90 T_26)
def fX3_goToNextToken_c90  : Nat → M2 → Option (M2)
  | 0, _ => none
  | n + 1, T => (if (T 0 0) ≤ (T 0 3) then fX3_goToNextToken_c171  T else grd (inb (T 0 3) 120) ((fX3_sortOf (T 1 (T 0 3).toNatClampNeg)).bind (fun (r_29 : Int32) => (if r_29 = (T 0 1) then (if (T 0 1) = (2 : Int32) then grd (inb (T 0 3) 120) (letb (st2 T 0 (upd (T 0) 4 (if (((10 : Int32) * (T 0 4)) + (T 1 (T 0 3).toNatClampNeg)) - (48 : Int32) < (10000 : Int32) then (((10 : Int32) * (T 0 4)) + (T 1 (T 0 3).toNatClampNeg)) - (48 : Int32) else (10000 : Int32)))) (fun T_34 : M2 => fX3_goToNextToken_c158 (fX3_goToNextToken_c90 n) T_34)) else fX3_goToNextToken_c158 (fX3_goToNextToken_c90 n) T) else fX3_goToNextToken_c171  T))))
def fX3_goToNextToken_c74  (z0 : Int32) (T : M2) : Option (M2) := letb (st2 T 0 (upd (T 0) 1 z0)) (fun T_35 : M2 => letb (st2 T_35 0 (upd (T_35 0) 4 (0 : Int32))) (fun T_36 : M2 => letb (st2 T_36 0 (upd (T_36 0) 3 (T_36 0 2))) (fun T_37 : M2 => fX3_goToNextToken_c90  FU T_37)))
def fX3_goToNextToken_c46  (T : M2) : Option (M2) := (if (T 0 0) ≤ (T 0 2) then fX3_goToNextToken_c74  (0 : Int32) T else grd (inb (T 0 2) 120) ((fX3_sortOf (T 1 (T 0 2).toNatClampNeg)).bind (fun (r_40 : Int32) => fX3_goToNextToken_c74  r_40 T)))
def fX3_goToNextToken_c8  : Nat → M2 → Option (M2)
  | 0, _ => none
  | n + 1, T => (if (T 0 0) ≤ (T 0 2) then fX3_goToNextToken_c46  T else grd (inb (T 0 2) 120) ((if (T 1 (T 0 2).toNatClampNeg) = (32 : Int32) then letb (st2 T 0 (upd (T 0) 2 ((T 0 2) + (1 : Int32)))) (fun T_45 : M2 => fX3_goToNextToken_c8 n T_45) else fX3_goToNextToken_c46  T)))
def fX3_goToNextToken (T : M2) : Option (M2) := letb (st2 T 0 (upd (T 0) 2 (T 0 3))) (fun T_46 : M2 => fX3_goToNextToken_c8  FU T_46)
def rmX3_goToNextToken : Room := { frames := 1, cells := 0, slots := 0, locals := 21 }
theorem hdX3_goToNextToken : yX3_goToNextToken.cls = yX3_goToNextToken.cls ∧ yX3_goToNextToken.cls ≠ "java/lang/invoke/MethodHandle" ∧ yX3_goToNextToken.cls ≠ "java/lang/invoke/VarHandle" ∧ (parseMethodDescriptor yX3_goToNextToken.desc).map (fun d => d.parameters.length) = some 0 := by decide +kernel
set_option maxHeartbeats 4000000 in
set_option maxRecDepth 100000 in
theorem kX3_goToNextToken (l : Launch) (g : Gl) (ad : Nat → Nat) (sz : Nat) (T : M2)  (T' : M2)  (hf : fX3_goToNextToken T = some T') : MetV l yX3_goToNextToken (Cond.code yX3_goToNextToken cX3_goToNextToken 1 none :: wsL_law) rmX3_goToNextToken [.ref (ad 0)] g (wT g ad T) sz (wT g ad T') := by
  refine openV (by decide +kernel) (Nat.le_of_ble_eq_true rfl) ?_
  intro p e s m args below meth c A C hE hA hH ls hl
  have hl : lv_has ls 1 [(0, .ref (ad 0))] := hl
  have C : Cx p s m args meth c cX3_goToNextToken 1 none RX3 := C
  obtain ⟨hx, hb, hml, hown, hT, hr, hlk⟩ := id C
  rw [fX3_goToNextToken] at hf
  have lp_8 : ∀ (n_8 : Nat) (T : M2) (H : Heap) (locs : List Loc) (ls : Array Slot), fX3_goToNextToken_c8  n_8 T = some T' → Hp g A s H locs (wT g ad T) → lv_has ls 1 [(0, .ref (ad 0))] → W p l e rmX3_goToNextToken s m args below meth c H locs 0 0 (QV g A below args s (wT g ad T')) (F0 m 8 ls []) := by
    intro n_8
    induction n_8 with
    | zero =>
      intro T H locs  ls hf hH hl
      rw [fX3_goToNextToken_c8] at hf
      cases hf
    | succ n_8 ih_8 =>
      intro T H locs  ls hf hH hl
      rw [fX3_goToNextToken_c8] at hf
      have j_46 : ∀ (T : M2) (H : Heap) (locs : List Loc) (ls : Array Slot), fX3_goToNextToken_c46  T = some T' → Hp g A s H locs (wT g ad T) → lv_has ls 1 [(0, .ref (ad 0))] → W p l e rmX3_goToNextToken s m args below meth c H locs 0 0 (QV g A below args s (wT g ad T')) (F0 m 46 ls []) := by
        intro T H locs  ls hf hH hl
        rw [fX3_goToNextToken_c46] at hf
        have j_74 : ∀ (z0 : Int32) (T : M2) (H : Heap) (locs : List Loc) (ls : Array Slot), fX3_goToNextToken_c74  z0 T = some T' → Hp g A s H locs (wT g ad T) → lv_has ls 1 [(0, .ref (ad 0))] → W p l e rmX3_goToNextToken s m args below meth c H locs 0 0 (QV g A below args s (wT g ad T')) (F0 m 74 ls [.int z0, .ref (ad 0)]) := by
          intro z0 T H locs  ls hf hH hl
          rw [fX3_goToNextToken_c74] at hf
          have lp_90 : ∀ (n_90 : Nat) (T : M2) (H : Heap) (locs : List Loc) (ls : Array Slot), fX3_goToNextToken_c90  n_90 T = some T' → Hp g A s H locs (wT g ad T) → lv_has ls 1 [(0, .ref (ad 0))] → W p l e rmX3_goToNextToken s m args below meth c H locs 0 0 (QV g A below args s (wT g ad T')) (F0 m 90 ls []) := by
            intro n_90
            induction n_90 with
            | zero =>
              intro T H locs  ls hf hH hl
              rw [fX3_goToNextToken_c90] at hf
              cases hf
            | succ n_90 ih_90 =>
              intro T H locs  ls hf hH hl
              rw [fX3_goToNextToken_c90] at hf
              have j_171 : ∀ (T : M2) (H : Heap) (locs : List Loc) (ls : Array Slot), fX3_goToNextToken_c171  T = some T' → Hp g A s H locs (wT g ad T) → lv_has ls 1 [(0, .ref (ad 0))] → W p l e rmX3_goToNextToken s m args below meth c H locs 0 0 (QV g A below args s (wT g ad T')) (F0 m 171 ls []) := by
                intro T H locs  ls hf hH hl
                rw [fX3_goToNextToken_c171] at hf
                have j_189 : ∀ (T : M2) (H : Heap) (locs : List Loc) (ls : Array Slot), fX3_goToNextToken_c189  T = some T' → Hp g A s H locs (wT g ad T) → lv_has ls 1 [] → W p l e rmX3_goToNextToken s m args below meth c H locs 0 0 (QV g A below args s (wT g ad T')) (F0 m 189 ls []) := by
                  intro T H locs  ls hf hH hl
                  rw [fX3_goToNextToken_c189] at hf
                  have h1 := Option.some.inj hf
                  subst h1
                  exact retV C hH dX3_goToNextToken_189
                refine lv_aload_n hx hb dX3_goToNextToken_171 rfl (lv_at hl 0 rfl) ?_
                refine gf_RX3_19 C hE hH 0 rfl rfl dX3_goToNextToken_172 ?_
                refine lv_iconst (v := 3) hx hb dX3_goToNextToken_175 (by decide) ?_
                refine lv_icmp_ne (tgt := 189) hx hb dX3_goToNextToken_176 (by decide) (fun c_24 => ?_) (fun c_24 => ?_)
                · have hf := if_n hf c_24
                  exact j_189 T _ _ ls hf hH (lv_sub hl [] rfl)
                · have hf := if_p hf c_24
                  refine lv_aload_n hx hb dX3_goToNextToken_179 rfl (lv_at hl 0 rfl) ?_
                  refine lv_aload_n hx hb dX3_goToNextToken_180 rfl (lv_at hl 0 rfl) ?_
                  refine gf_RX3_22 C hE hH 0 rfl rfl dX3_goToNextToken_181 ?_
                  refine lv_iconst (v := 1) hx hb dX3_goToNextToken_184 (by decide) ?_
                  refine lv_iadd hx hb dX3_goToNextToken_185 ?_
                  refine pf_RX3_25 C hE hH 0 rfl rfl rfl (Nat.le_of_ble_eq_true rfl) (fun q : M2 => wT g ad q) (st2 T 0 (upd (T 0) 3 ((T 0 2) + (1 : Int32)))) rfl dX3_goToNextToken_186 (fun T_25 eT_25 H locs hH => ?_)
                  have hf := letb_at hf T_25 eT_25
                  exact j_189 T_25 _ _ ls hf hH (lv_sub hl [] rfl)
              have j_158 : ∀ (T : M2) (H : Heap) (locs : List Loc) (ls : Array Slot), fX3_goToNextToken_c158 (fX3_goToNextToken_c90 n_90) T = some T' → Hp g A s H locs (wT g ad T) → lv_has ls 1 [(0, .ref (ad 0))] → W p l e rmX3_goToNextToken s m args below meth c H locs 0 0 (QV g A below args s (wT g ad T')) (F0 m 158 ls []) := by
                intro T H locs  ls hf hH hl
                rw [fX3_goToNextToken_c158] at hf
                refine lv_aload_n hx hb dX3_goToNextToken_158 rfl (lv_at hl 0 rfl) ?_
                refine lv_dup hx hb dX3_goToNextToken_159 rfl ?_
                refine gf_RX3_25 C hE hH 0 rfl rfl dX3_goToNextToken_160 ?_
                refine lv_iconst (v := 1) hx hb dX3_goToNextToken_163 (by decide) ?_
                refine lv_iadd hx hb dX3_goToNextToken_164 ?_
                refine pf_RX3_25 C hE hH 0 rfl rfl rfl (Nat.le_of_ble_eq_true rfl) (fun q : M2 => wT g ad q) (st2 T 0 (upd (T 0) 3 ((T 0 3) + (1 : Int32)))) rfl dX3_goToNextToken_165 (fun T_26 eT_26 H locs hH => ?_)
                have hf := letb_at hf T_26 eT_26
                refine lv_goto (tgt := 90) hx hb dX3_goToNextToken_168 (by decide) ?_
                exact ih_90 T_26 _ _ ls hf hH (lv_sub hl [0] rfl)
              refine lv_aload_n hx hb dX3_goToNextToken_90 rfl (lv_at hl 0 rfl) ?_
              refine gf_RX3_25 C hE hH 0 rfl rfl dX3_goToNextToken_91 ?_
              refine lv_aload_n hx hb dX3_goToNextToken_94 rfl (lv_at hl 0 rfl) ?_
              refine gf_RX3_15 C hE hH 0 rfl rfl dX3_goToNextToken_95 ?_
              refine lv_icmp_ge (tgt := 171) hx hb dX3_goToNextToken_98 (by decide) (fun c_27 => ?_) (fun c_27 => ?_)
              · have hf := if_p hf c_27
                exact j_171 T _ _ ls hf hH (lv_sub hl [0] rfl)
              · have hf := if_n hf c_27
                refine lv_aload_n hx hb dX3_goToNextToken_101 rfl (lv_at hl 0 rfl) ?_
                refine gf_RX3_9 C hE hH 0 rfl rfl dX3_goToNextToken_102 ?_
                refine lv_aload_n hx hb dX3_goToNextToken_105 rfl (lv_at hl 0 rfl) ?_
                refine gf_RX3_25 C hE hH 0 rfl rfl dX3_goToNextToken_106 ?_
                obtain ⟨hi_28, hf⟩ := grd_inv hf
                refine xiald C hE hH 1 rfl hi_28 dX3_goToNextToken_109 ?_
                obtain ⟨r_29, hc_30, hf⟩ := bind_inv hf
                refine aftPI (runS C hE hA hH [] rfl rfl (kX3_sortOf l g ad _ (T 1 (T 0 3).toNatClampNeg) r_29  hc_30) tw_27_12 tw_27_13 tw_1_22 tw_27_14 hdX3_sortOf rfl rfl ⟨Nat.le_of_ble_eq_true rfl, Nat.le_of_ble_eq_true rfl⟩ rfl hl.1 (rest := []) rfl (Nat.le_of_ble_eq_true rfl) dX3_goToNextToken_110 ⟨Nat.zero_le _, Nat.zero_le _⟩) ?_
                refine lv_aload_n hx hb dX3_goToNextToken_113 rfl (lv_at hl 0 rfl) ?_
                refine gf_RX3_19 C hE hH 0 rfl rfl dX3_goToNextToken_114 ?_
                refine lv_icmp_ne (tgt := 171) hx hb dX3_goToNextToken_117 (by decide) (fun c_31 => ?_) (fun c_31 => ?_)
                · have hf := if_n hf c_31
                  exact j_171 T _ _ ls hf hH (lv_sub hl [0] rfl)
                · have hf := if_p hf c_31
                  refine lv_aload_n hx hb dX3_goToNextToken_120 rfl (lv_at hl 0 rfl) ?_
                  refine gf_RX3_19 C hE hH 0 rfl rfl dX3_goToNextToken_121 ?_
                  refine lv_iconst (v := 2) hx hb dX3_goToNextToken_124 (by decide) ?_
                  refine lv_icmp_ne (tgt := 158) hx hb dX3_goToNextToken_125 (by decide) (fun c_32 => ?_) (fun c_32 => ?_)
                  · have hf := if_n hf c_32
                    exact j_158 T _ _ ls hf hH (lv_sub hl [0] rfl)
                  · have hf := if_p hf c_32
                    refine lv_aload_n hx hb dX3_goToNextToken_128 rfl (lv_at hl 0 rfl) ?_
                    refine lv_sipush (v := 10000) hx hb dX3_goToNextToken_129 (by decide) ?_
                    refine lv_bipush (v := 10) hx hb dX3_goToNextToken_132 (by decide) ?_
                    refine lv_aload_n hx hb dX3_goToNextToken_134 rfl (lv_at hl 0 rfl) ?_
                    refine gf_RX3_28 C hE hH 0 rfl rfl dX3_goToNextToken_135 ?_
                    refine lv_imul hx hb dX3_goToNextToken_138 ?_
                    refine lv_aload_n hx hb dX3_goToNextToken_139 rfl (lv_at hl 0 rfl) ?_
                    refine gf_RX3_9 C hE hH 0 rfl rfl dX3_goToNextToken_140 ?_
                    refine lv_aload_n hx hb dX3_goToNextToken_143 rfl (lv_at hl 0 rfl) ?_
                    refine gf_RX3_25 C hE hH 0 rfl rfl dX3_goToNextToken_144 ?_
                    obtain ⟨hi_33, hf⟩ := grd_inv hf
                    refine xiald C hE hH 1 rfl hi_33 dX3_goToNextToken_147 ?_
                    refine lv_iadd hx hb dX3_goToNextToken_148 ?_
                    refine lv_bipush (v := 48) hx hb dX3_goToNextToken_149 (by decide) ?_
                    refine lv_isub hx hb dX3_goToNextToken_151 ?_
                    refine va_mmin hx hb (hml.trans hl.1.symm) hown (hT _ tw_27_11) (hT _ tw_14_19) (hT _ tw_14_20) (hT _ tw_14_21) (Nat.le_of_ble_eq_true rfl) (Nat.le_of_ble_eq_true rfl) (Nat.zero_le _) (Nat.zero_le _) dX3_goToNextToken_152 ?_
                    refine pf_RX3_28 C hE hH 0 rfl rfl rfl (Nat.le_of_ble_eq_true rfl) (fun q : M2 => wT g ad q) (st2 T 0 (upd (T 0) 4 (if (((10 : Int32) * (T 0 4)) + (T 1 (T 0 3).toNatClampNeg)) - (48 : Int32) < (10000 : Int32) then (((10 : Int32) * (T 0 4)) + (T 1 (T 0 3).toNatClampNeg)) - (48 : Int32) else (10000 : Int32)))) rfl dX3_goToNextToken_155 (fun T_34 eT_34 H locs hH => ?_)
                    have hf := letb_at hf T_34 eT_34
                    exact j_158 T_34 _ _ ls hf hH (lv_sub hl [0] rfl)
          refine pf_RX3_19 C hE hH 0 rfl rfl rfl (Nat.le_of_ble_eq_true rfl) (fun q : M2 => wT g ad q) (st2 T 0 (upd (T 0) 1 z0)) rfl dX3_goToNextToken_74 (fun T_35 eT_35 H locs hH => ?_)
          have hf := letb_at hf T_35 eT_35
          refine lv_aload_n hx hb dX3_goToNextToken_77 rfl (lv_at hl 0 rfl) ?_
          refine lv_iconst (v := 0) hx hb dX3_goToNextToken_78 (by decide) ?_
          refine pf_RX3_28 C hE hH 0 rfl rfl rfl (Nat.le_of_ble_eq_true rfl) (fun q : M2 => wT g ad q) (st2 T_35 0 (upd (T_35 0) 4 (0 : Int32))) rfl dX3_goToNextToken_79 (fun T_36 eT_36 H locs hH => ?_)
          have hf := letb_at hf T_36 eT_36
          refine lv_aload_n hx hb dX3_goToNextToken_82 rfl (lv_at hl 0 rfl) ?_
          refine lv_aload_n hx hb dX3_goToNextToken_83 rfl (lv_at hl 0 rfl) ?_
          refine gf_RX3_22 C hE hH 0 rfl rfl dX3_goToNextToken_84 ?_
          refine pf_RX3_25 C hE hH 0 rfl rfl rfl (Nat.le_of_ble_eq_true rfl) (fun q : M2 => wT g ad q) (st2 T_36 0 (upd (T_36 0) 3 (T_36 0 2))) rfl dX3_goToNextToken_87 (fun T_37 eT_37 H locs hH => ?_)
          have hf := letb_at hf T_37 eT_37
          exact lp_90 _ T_37 _ _ ls hf hH (lv_sub hl [0] rfl)
        refine lv_aload_n hx hb dX3_goToNextToken_46 rfl (lv_at hl 0 rfl) ?_
        refine lv_aload_n hx hb dX3_goToNextToken_47 rfl (lv_at hl 0 rfl) ?_
        refine gf_RX3_22 C hE hH 0 rfl rfl dX3_goToNextToken_48 ?_
        refine lv_aload_n hx hb dX3_goToNextToken_51 rfl (lv_at hl 0 rfl) ?_
        refine gf_RX3_15 C hE hH 0 rfl rfl dX3_goToNextToken_52 ?_
        refine lv_icmp_ge (tgt := 73) hx hb dX3_goToNextToken_55 (by decide) (fun c_38 => ?_) (fun c_38 => ?_)
        · have hf := if_p hf c_38
          refine lv_iconst (v := 0) hx hb dX3_goToNextToken_73 (by decide) ?_
          exact j_74 (0 : Int32) T _ _ ls hf hH (lv_sub hl [0] rfl)
        · have hf := if_n hf c_38
          refine lv_aload_n hx hb dX3_goToNextToken_58 rfl (lv_at hl 0 rfl) ?_
          refine gf_RX3_9 C hE hH 0 rfl rfl dX3_goToNextToken_59 ?_
          refine lv_aload_n hx hb dX3_goToNextToken_62 rfl (lv_at hl 0 rfl) ?_
          refine gf_RX3_22 C hE hH 0 rfl rfl dX3_goToNextToken_63 ?_
          obtain ⟨hi_39, hf⟩ := grd_inv hf
          refine xiald C hE hH 1 rfl hi_39 dX3_goToNextToken_66 ?_
          obtain ⟨r_40, hc_41, hf⟩ := bind_inv hf
          refine aftPI (runS C hE hA hH [] rfl rfl (kX3_sortOf l g ad _ (T 1 (T 0 2).toNatClampNeg) r_40  hc_41) tw_27_12 tw_27_13 tw_1_22 tw_27_14 hdX3_sortOf rfl rfl ⟨Nat.le_of_ble_eq_true rfl, Nat.le_of_ble_eq_true rfl⟩ rfl hl.1 (rest := [.ref (ad 0)]) rfl (Nat.le_of_ble_eq_true rfl) dX3_goToNextToken_67 ⟨Nat.zero_le _, Nat.zero_le _⟩) ?_
          refine lv_goto (tgt := 74) hx hb dX3_goToNextToken_70 (by decide) ?_
          exact j_74 r_40 T _ _ ls hf hH (lv_sub hl [0] rfl)
      refine lv_aload_n hx hb dX3_goToNextToken_8 rfl (lv_at hl 0 rfl) ?_
      refine gf_RX3_22 C hE hH 0 rfl rfl dX3_goToNextToken_9 ?_
      refine lv_aload_n hx hb dX3_goToNextToken_12 rfl (lv_at hl 0 rfl) ?_
      refine gf_RX3_15 C hE hH 0 rfl rfl dX3_goToNextToken_13 ?_
      refine lv_icmp_ge (tgt := 46) hx hb dX3_goToNextToken_16 (by decide) (fun c_42 => ?_) (fun c_42 => ?_)
      · have hf := if_p hf c_42
        exact j_46 T _ _ ls hf hH (lv_sub hl [0] rfl)
      · have hf := if_n hf c_42
        refine lv_aload_n hx hb dX3_goToNextToken_19 rfl (lv_at hl 0 rfl) ?_
        refine gf_RX3_9 C hE hH 0 rfl rfl dX3_goToNextToken_20 ?_
        refine lv_aload_n hx hb dX3_goToNextToken_23 rfl (lv_at hl 0 rfl) ?_
        refine gf_RX3_22 C hE hH 0 rfl rfl dX3_goToNextToken_24 ?_
        obtain ⟨hi_43, hf⟩ := grd_inv hf
        refine xiald C hE hH 1 rfl hi_43 dX3_goToNextToken_27 ?_
        refine lv_bipush (v := 32) hx hb dX3_goToNextToken_28 (by decide) ?_
        refine lv_icmp_ne (tgt := 46) hx hb dX3_goToNextToken_30 (by decide) (fun c_44 => ?_) (fun c_44 => ?_)
        · have hf := if_n hf c_44
          exact j_46 T _ _ ls hf hH (lv_sub hl [0] rfl)
        · have hf := if_p hf c_44
          refine lv_aload_n hx hb dX3_goToNextToken_33 rfl (lv_at hl 0 rfl) ?_
          refine lv_dup hx hb dX3_goToNextToken_34 rfl ?_
          refine gf_RX3_22 C hE hH 0 rfl rfl dX3_goToNextToken_35 ?_
          refine lv_iconst (v := 1) hx hb dX3_goToNextToken_38 (by decide) ?_
          refine lv_iadd hx hb dX3_goToNextToken_39 ?_
          refine pf_RX3_22 C hE hH 0 rfl rfl rfl (Nat.le_of_ble_eq_true rfl) (fun q : M2 => wT g ad q) (st2 T 0 (upd (T 0) 2 ((T 0 2) + (1 : Int32)))) rfl dX3_goToNextToken_40 (fun T_45 eT_45 H locs hH => ?_)
          have hf := letb_at hf T_45 eT_45
          refine lv_goto (tgt := 8) hx hb dX3_goToNextToken_43 (by decide) ?_
          exact ih_8 T_45 _ _ ls hf hH (lv_sub hl [0] rfl)
  refine lv_aload_n hx hb dX3_goToNextToken_0 rfl (lv_at hl 0 rfl) ?_
  refine lv_aload_n hx hb dX3_goToNextToken_1 rfl (lv_at hl 0 rfl) ?_
  refine gf_RX3_25 C hE hH 0 rfl rfl dX3_goToNextToken_2 ?_
  refine pf_RX3_22 C hE hH 0 rfl rfl rfl (Nat.le_of_ble_eq_true rfl) (fun q : M2 => wT g ad q) (st2 T 0 (upd (T 0) 2 (T 0 3))) rfl dX3_goToNextToken_5 (fun T_46 eT_46 H locs hH => ?_)
  have hf := letb_at hf T_46 eT_46
  exact lp_8 _ T_46 _ _ ls hf hH (lv_sub hl [0] rfl)
def fX3_goToFirstToken (T : M2) : Option (M2) := letb (st2 T 0 (upd (T 0) 3 (0 : Int32))) (fun T_4 : M2 => (fX3_goToNextToken T_4).bind (fun (T_5 : M2) => some T_5))
def rmX3_goToFirstToken : Room := { frames := 2, cells := 0, slots := 0, locals := 41 }
theorem hdX3_goToFirstToken : yX3_goToFirstToken.cls = yX3_goToFirstToken.cls ∧ yX3_goToFirstToken.cls ≠ "java/lang/invoke/MethodHandle" ∧ yX3_goToFirstToken.cls ≠ "java/lang/invoke/VarHandle" ∧ (parseMethodDescriptor yX3_goToFirstToken.desc).map (fun d => d.parameters.length) = some 0 := by decide +kernel
set_option maxHeartbeats 4000000 in
set_option maxRecDepth 100000 in
theorem kX3_goToFirstToken (l : Launch) (g : Gl) (ad : Nat → Nat) (sz : Nat) (T : M2)  (T' : M2)  (hf : fX3_goToFirstToken T = some T') : MetV l yX3_goToFirstToken (Cond.code yX3_goToFirstToken cX3_goToFirstToken 1 none :: wsL_law) rmX3_goToFirstToken [.ref (ad 0)] g (wT g ad T) sz (wT g ad T') := by
  refine openV (by decide +kernel) (Nat.le_of_ble_eq_true rfl) ?_
  intro p e s m args below meth c A C hE hA hH ls hl
  have hl : lv_has ls 1 [(0, .ref (ad 0))] := hl
  have C : Cx p s m args meth c cX3_goToFirstToken 1 none RX3 := C
  obtain ⟨hx, hb, hml, hown, hT, hr, hlk⟩ := id C
  rw [fX3_goToFirstToken] at hf
  refine lv_aload_n hx hb dX3_goToFirstToken_0 rfl (lv_at hl 0 rfl) ?_
  refine lv_iconst (v := 0) hx hb dX3_goToFirstToken_1 (by decide) ?_
  refine pf_RX3_25 C hE hH 0 rfl rfl rfl (Nat.le_of_ble_eq_true rfl) (fun q : M2 => wT g ad q) (st2 T 0 (upd (T 0) 3 (0 : Int32))) rfl dX3_goToFirstToken_2 (fun T_4 eT_4 H locs hH => ?_)
  have hf := letb_at hf T_4 eT_4
  refine lv_aload_n hx hb dX3_goToFirstToken_5 rfl (lv_at hl 0 rfl) ?_
  obtain ⟨T_5, hc_6, hf⟩ := bind_inv hf
  refine aftV (runV C hE hA hH [0, 1] nC_T_T_0_1 (sC_T_T_0_1 g ad T_4) (kX3_goToNextToken l g ad _ T_4 T_5  hc_6) tw_27_7 tw_27_8 tw_27_9 tw_1_22 tw_27_10 hdX3_goToNextToken 0 rfl rfl rfl rfl ⟨Nat.le_of_ble_eq_true rfl, Nat.le_of_ble_eq_true rfl⟩ rfl hl.1 (rest := []) rfl (Nat.le_of_ble_eq_true rfl) dX3_goToFirstToken_6 ⟨Nat.zero_le _, Nat.zero_le _⟩) hA hH [0, 1] [] (sC_T_T_0_1 g ad T_4) (sR_T_T_0_1 g ad T_4) nR_T_T_0_1 dj_T_T_0_1 [0, 1] nP_T_T_0_1 (sP_T_T_0_1 g ad T_4 T_5) (fun H locs hH => ?_)
  have h1 := Option.some.inj hf
  subst h1
  exact retV C hH dX3_goToFirstToken_9
def fX3_takeNumber_c20  (T : M2) : Option (Int32 × M2) := some ((-1 : Int32), T)
def fX3_takeNumber (x1 : Int32) (x2 : Int32) (T : M2) : Option (Int32 × M2) := (if (T 0 1) = (2 : Int32) then (fX5_within (T 0 4) x1 x2).bind (fun (r_9 : Int32) => (if r_9 = 0 then fX3_takeNumber_c20  T else letb (T 0 4) (fun v_12 : Int32 => (fX3_goToNextToken T).bind (fun (T_13 : M2) => some (v_12, T_13))))) else fX3_takeNumber_c20  T)
def rmX3_takeNumber : Room := { frames := 2, cells := 0, slots := 0, locals := 41 }
theorem hdX3_takeNumber : yX3_takeNumber.cls = yX3_takeNumber.cls ∧ yX3_takeNumber.cls ≠ "java/lang/invoke/MethodHandle" ∧ yX3_takeNumber.cls ≠ "java/lang/invoke/VarHandle" ∧ (parseMethodDescriptor yX3_takeNumber.desc).map (fun d => d.parameters.length) = some 2 := by decide +kernel
set_option maxHeartbeats 4000000 in
set_option maxRecDepth 100000 in
theorem kX3_takeNumber (l : Launch) (g : Gl) (ad : Nat → Nat) (sz : Nat) (T : M2) (x1 : Int32) (x2 : Int32) (r : Int32) (T' : M2)  (hf : fX3_takeNumber x1 x2 T = some (r, T')) : MetI l yX3_takeNumber (Cond.code yX3_takeNumber cX3_takeNumber 4 (some .int) :: wsL_law) rmX3_takeNumber [.ref (ad 0), .int x1, .int x2] g (wT g ad T) sz r (wT g ad T') := by
  refine openI (by decide +kernel) (Nat.le_of_ble_eq_true rfl) ?_
  intro p e s m args below meth c A C hE hA hH ls hl
  have hl : lv_has ls 4 [(0, .ref (ad 0)), (1, .int x1), (2, .int x2)] := hl
  have C : Cx p s m args meth c cX3_takeNumber 4 (some .int) RX3 := C
  obtain ⟨hx, hb, hml, hown, hT, hr, hlk⟩ := id C
  rw [fX3_takeNumber] at hf
  have j_20 : ∀ (T : M2) (H : Heap) (locs : List Loc) (ls : Array Slot), fX3_takeNumber_c20  T = some (r, T') → Hp g A s H locs (wT g ad T) → lv_has ls 4 [] → W p l e rmX3_takeNumber s m args below meth c H locs 0 0 (QI g A below args s r (wT g ad T')) (F0 m 20 ls []) := by
    intro T H locs  ls hf hH hl
    rw [fX3_takeNumber_c20] at hf
    refine lv_iconst (v := (-1)) hx hb dX3_takeNumber_20 (by decide) ?_
    have hf := Option.some.inj hf
    obtain ⟨h1, h2⟩ := Prod.mk.inj hf
    subst h1
    subst h2
    exact retI C hH rfl dX3_takeNumber_21
  refine lv_aload_n hx hb dX3_takeNumber_0 rfl (lv_at hl 0 rfl) ?_
  refine gf_RX3_19 C hE hH 0 rfl rfl dX3_takeNumber_1 ?_
  refine lv_iconst (v := 2) hx hb dX3_takeNumber_4 (by decide) ?_
  refine lv_icmp_ne (tgt := 20) hx hb dX3_takeNumber_5 (by decide) (fun c_8 => ?_) (fun c_8 => ?_)
  · have hf := if_n hf c_8
    exact j_20 T _ _ ls hf hH (lv_sub hl [] rfl)
  · have hf := if_p hf c_8
    refine lv_aload_n hx hb dX3_takeNumber_8 rfl (lv_at hl 0 rfl) ?_
    refine gf_RX3_28 C hE hH 0 rfl rfl dX3_takeNumber_9 ?_
    refine lv_iload_n hx hb dX3_takeNumber_12 rfl (lv_at hl 1 rfl) ?_
    refine lv_iload_n hx hb dX3_takeNumber_13 rfl (lv_at hl 2 rfl) ?_
    obtain ⟨r_9, hc_10, hf⟩ := bind_inv hf
    refine aftPI (runSN (host := RX5) C hE hA hH [] rfl rfl (kX5_within l g ad _ (T 0 4) x1 x2 r_9  hc_10) (hE.2.2.2.2.2.2.1) tw_4_15 tw_1_2 tw_4_16 hdX5_within rfl rfl ⟨Nat.le_of_ble_eq_true rfl, Nat.le_of_ble_eq_true rfl⟩ rfl hl.1 (rest := []) rfl (Nat.le_of_ble_eq_true rfl) dX3_takeNumber_14 ⟨Nat.zero_le _, Nat.zero_le _⟩) ?_
    refine lv_if_ne (tgt := 22) hx hb dX3_takeNumber_17 (by decide) (fun c_11 => ?_) (fun c_11 => ?_)
    · have hf := if_n hf c_11
      refine lv_aload_n hx hb dX3_takeNumber_22 rfl (lv_at hl 0 rfl) ?_
      refine gf_RX3_28 C hE hH 0 rfl rfl dX3_takeNumber_23 ?_
      refine lv_topi (fun v_12 ev_12 => ?_)
      have hf := letb_at hf v_12 ev_12
      refine lv_istore_n (lv' := [(3, .int v_12), (0, .ref (ad 0)), (1, .int x1), (2, .int x2)]) hx hb dX3_takeNumber_26 rfl hl (by decide) rfl (fun ls hl => ?_)
      refine lv_aload_n hx hb dX3_takeNumber_27 rfl (lv_at hl 1 rfl) ?_
      obtain ⟨T_13, hc_14, hf⟩ := bind_inv hf
      refine aftV (runV C hE hA hH [0, 1] nC_T_T_0_1 (sC_T_T_0_1 g ad T) (kX3_goToNextToken l g ad _ T T_13  hc_14) tw_27_7 tw_27_8 tw_27_9 tw_1_22 tw_27_10 hdX3_goToNextToken 0 rfl rfl rfl rfl ⟨Nat.le_of_ble_eq_true rfl, Nat.le_of_ble_eq_true rfl⟩ rfl hl.1 (rest := []) rfl (Nat.le_of_ble_eq_true rfl) dX3_takeNumber_28 ⟨Nat.zero_le _, Nat.zero_le _⟩) hA hH [0, 1] [] (sC_T_T_0_1 g ad T) (sR_T_T_0_1 g ad T) nR_T_T_0_1 dj_T_T_0_1 [0, 1] nP_T_T_0_1 (sP_T_T_0_1 g ad T T_13) (fun H locs hH => ?_)
      refine lv_iload_n hx hb dX3_takeNumber_31 rfl (lv_at hl 0 rfl) ?_
      have hf := Option.some.inj hf
      obtain ⟨h1, h2⟩ := Prod.mk.inj hf
      subst h1
      subst h2
      exact retI C hH rfl dX3_takeNumber_32
    · have hf := if_p hf c_11
      exact j_20 T _ _ ls hf hH (lv_sub hl [] rfl)
