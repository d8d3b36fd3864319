def fX6_moveAll_p3_c39  (G : M2) (J : J2) : Option (M2) := some G
def fX6_moveAll_p3_c33 (k_2 : Int32 → Int32 → M2 → J2 → Option (M2)) (y1 : Int32) (y3 : Int32) (G : M2) (J : J2) : Option (M2) := letb (y3 + (1 : Int32)) (fun v_10 : Int32 => k_2 y1 v_10 G J)
def fX6_moveAll_p3_c2  : Nat → Int32 → Int32 → M2 → J2 → Option (M2)
  | 0, _, _, _, _ => none
  | n + 1, y1, y3, G, J => (if (75 : Int32) ≤ y3 then fX6_moveAll_p3_c39  G J else (if y1 = 0 then grd (inb y3 75) (grd (inb y3 75) (letb (st2 G 1 (upd (G 1) y3.toNatClampNeg (G 3 y3.toNatClampNeg))) (fun G_15 : M2 => fX6_moveAll_p3_c33 (fX6_moveAll_p3_c2 n) y1 y3 G_15 J))) else grd (inb y3 75) (grd (inb y3 75) (letb (st2 G 3 (upd (G 3) y3.toNatClampNeg (G 1 y3.toNatClampNeg))) (fun G_18 : M2 => fX6_moveAll_p3_c33 (fX6_moveAll_p3_c2 n) y1 y3 G_18 J)))))
def fX6_moveAll_p3 (x1 : Int32) (G : M2) (J : J2) : Option (M2) := fX6_moveAll_p3_c2  FU x1 (0 : Int32) G J
def rmX6_moveAll_p3 : Room := { frames := 0, cells := 0, slots := 0, locals := 0 }
theorem hdX6_moveAll_p3 : yX6_moveAll.cls = yX6_moveAll.cls ∧ yX6_moveAll.cls ≠ "java/lang/invoke/MethodHandle" ∧ yX6_moveAll.cls ≠ "java/lang/invoke/VarHandle" ∧ (parseMethodDescriptor yX6_moveAll.desc).map (fun d => d.parameters.length) = some 2 := by decide +kernel
set_option maxHeartbeats 4000000 in
set_option maxRecDepth 100000 in
theorem kX6_moveAll_p3 (l : Launch) (g : Gl) (ad : Nat → Nat) (sz : Nat) (G : M2) (J : J2) (x1 : Int32) (G' : M2)  (hf : fX6_moveAll_p3 x1 G J = some G') : MetV l yX6_moveAll (Cond.code yX6_moveAll cX6_moveAll 4 none :: wsL_law) rmX6_moveAll_p3 [.ref (ad 0), .int x1, .ref (ad 3)] g (wM g ad G J) sz (wM g ad G' J) := by
  refine openV (by decide +kernel) (Nat.le_of_ble_eq_true rfl) ?_
  intro p e s m args below meth c A C hE hA hH ls hl
  have hl : lv_has ls 4 [(0, .ref (ad 0)), (1, .int x1), (2, .ref (ad 3))] := hl
  have C : Cx p s m args meth c cX6_moveAll 4 none RX6 := C
  obtain ⟨hx, hb, hml, hown, hT, hr, hlk⟩ := id C
  rw [fX6_moveAll_p3] at hf
  have lp_2 : ∀ (n_2 : Nat) (y1 : Int32) (y3 : Int32) (G : M2) (H : Heap) (locs : List Loc) (ls : Array Slot), fX6_moveAll_p3_c2  n_2 y1 y3 G J = some G' → Hp g A s H locs (wM g ad G J) → lv_has ls 4 [(0, .ref (ad 0)), (1, .int y1), (2, .ref (ad 3)), (3, .int y3)] → W p l e rmX6_moveAll_p3 s m args below meth c H locs 0 0 (QV g A below args s (wM g ad G' J)) (F0 m 2 ls []) := by
    intro n_2
    induction n_2 with
    | zero =>
      intro y1 y3 G H locs  ls hf hH hl
      rw [fX6_moveAll_p3_c2] at hf
      cases hf
    | succ n_2 ih_2 =>
      intro y1 y3 G H locs  ls hf hH hl
      rw [fX6_moveAll_p3_c2] at hf
      have j_39 : ∀ (G : M2) (H : Heap) (locs : List Loc) (ls : Array Slot), fX6_moveAll_p3_c39  G J = some G' → Hp g A s H locs (wM g ad G J) → lv_has ls 4 [] → W p l e rmX6_moveAll_p3 s m args below meth c H locs 0 0 (QV g A below args s (wM g ad G' J)) (F0 m 39 ls []) := by
        intro G H locs  ls hf hH hl
        rw [fX6_moveAll_p3_c39] at hf
        have h1 := Option.some.inj hf
        subst h1
        exact retV C hH dX6_moveAll_39
      have j_33 : ∀ (y1 : Int32) (y3 : Int32) (G : M2) (H : Heap) (locs : List Loc) (ls : Array Slot), fX6_moveAll_p3_c33 (fX6_moveAll_p3_c2 n_2) y1 y3 G J = some G' → Hp g A s H locs (wM g ad G J) → lv_has ls 4 [(0, .ref (ad 0)), (1, .int y1), (2, .ref (ad 3)), (3, .int y3)] → W p l e rmX6_moveAll_p3 s m args below meth c H locs 0 0 (QV g A below args s (wM g ad G' J)) (F0 m 33 ls []) := by
        intro y1 y3 G H locs  ls hf hH hl
        rw [fX6_moveAll_p3_c33] at hf
        obtain ⟨v_10, ev_10⟩ : ∃ z : Int32, z = y3 + (1 : Int32) := ⟨_, rfl⟩
        have hf := letb_at hf v_10 ev_10
        refine lv_iinc (v := v_10) (lv' := [(3, .int v_10), (0, .ref (ad 0)), (1, .int y1), (2, .ref (ad 3))]) hx hb dX6_moveAll_33 hl (k := 3) rfl (by rw [ev_10]; rfl) (by decide) rfl (fun ls hl => ?_)
        refine lv_goto (tgt := 2) hx hb dX6_moveAll_36 (by decide) ?_
        exact ih_2 y1 v_10 G _ _ ls hf hH (lv_sub hl [1, 2, 3, 0] rfl)
      refine lv_iload_n hx hb dX6_moveAll_2 rfl (lv_at hl 3 rfl) ?_
      refine lv_bipush (v := 75) hx hb dX6_moveAll_3 (by decide) ?_
      refine lv_icmp_ge (tgt := 39) hx hb dX6_moveAll_5 (by decide) (fun c_11 => ?_) (fun c_11 => ?_)
      · have hf := if_p hf c_11
        exact j_39 G _ _ ls hf hH (lv_sub hl [] rfl)
      · have hf := if_n hf c_11
        refine lv_iload_n hx hb dX6_moveAll_8 rfl (lv_at hl 1 rfl) ?_
        refine lv_if_eq (tgt := 24) hx hb dX6_moveAll_9 (by decide) (fun c_12 => ?_) (fun c_12 => ?_)
        · have hf := if_p hf c_12
          refine lv_aload_n hx hb dX6_moveAll_24 rfl (lv_at hl 0 rfl) ?_
          refine gf_RX6_7 C hE hH 0 rfl rfl dX6_moveAll_25 ?_
          refine lv_iload_n hx hb dX6_moveAll_28 rfl (lv_at hl 3 rfl) ?_
          refine lv_aload_n hx hb dX6_moveAll_29 rfl (lv_at hl 2 rfl) ?_
          refine lv_iload_n hx hb dX6_moveAll_30 rfl (lv_at hl 3 rfl) ?_
          obtain ⟨hi_13, hf⟩ := grd_inv hf
          refine xiald C hE hH 3 rfl hi_13 dX6_moveAll_31 ?_
          obtain ⟨hi_14, hf⟩ := grd_inv hf
          refine xiast C hE hH 1 rfl hi_14 (fun q : M2 => wM g ad q J) (st2 G 1 (upd (G 1) y3.toNatClampNeg (G 3 y3.toNatClampNeg))) rfl dX6_moveAll_32 (fun G_15 eG_15 H locs hH => ?_)
          have hf := letb_at hf G_15 eG_15
          exact j_33 y1 y3 G_15 _ _ ls hf hH (lv_sub hl [0, 1, 2, 3] rfl)
        · have hf := if_n hf c_12
          refine lv_aload_n hx hb dX6_moveAll_12 rfl (lv_at hl 2 rfl) ?_
          refine lv_iload_n hx hb dX6_moveAll_13 rfl (lv_at hl 3 rfl) ?_
          refine lv_aload_n hx hb dX6_moveAll_14 rfl (lv_at hl 0 rfl) ?_
          refine gf_RX6_7 C hE hH 0 rfl rfl dX6_moveAll_15 ?_
          refine lv_iload_n hx hb dX6_moveAll_18 rfl (lv_at hl 3 rfl) ?_
          obtain ⟨hi_16, hf⟩ := grd_inv hf
          refine xiald C hE hH 1 rfl hi_16 dX6_moveAll_19 ?_
          obtain ⟨hi_17, hf⟩ := grd_inv hf
          refine xiast C hE hH 3 rfl hi_17 (fun q : M2 => wM g ad q J) (st2 G 3 (upd (G 3) y3.toNatClampNeg (G 1 y3.toNatClampNeg))) rfl dX6_moveAll_20 (fun G_18 eG_18 H locs hH => ?_)
          have hf := letb_at hf G_18 eG_18
          refine lv_goto (tgt := 33) hx hb dX6_moveAll_21 (by decide) ?_
          exact j_33 y1 y3 G_18 _ _ ls hf hH (lv_sub hl [0, 1, 2, 3] rfl)
  refine lv_iconst (v := 0) hx hb dX6_moveAll_0 (by decide) ?_
  refine lv_istore_n (lv' := [(3, .int (0 : Int32)), (0, .ref (ad 0)), (1, .int x1), (2, .ref (ad 3))]) hx hb dX6_moveAll_1 rfl hl (by decide) rfl (fun ls hl => ?_)
  exact lp_2 _ x1 (0 : Int32) G _ _ ls hf hH (lv_sub hl [1, 2, 3, 0] rfl)
def fX6_moveAll_p4_c39  (G : M2) (J : J2) : Option (M2) := some G
def fX6_moveAll_p4_c33 (k_2 : Int32 → Int32 → M2 → J2 → Option (M2)) (y1 : Int32) (y3 : Int32) (G : M2) (J : J2) : Option (M2) := letb (y3 + (1 : Int32)) (fun v_10 : Int32 => k_2 y1 v_10 G J)
def fX6_moveAll_p4_c2  : Nat → Int32 → Int32 → M2 → J2 → Option (M2)
  | 0, _, _, _, _ => none
  | n + 1, y1, y3, G, J => (if (75 : Int32) ≤ y3 then fX6_moveAll_p4_c39  G J else (if y1 = 0 then grd (inb y3 75) (grd (inb y3 75) (letb (st2 G 1 (upd (G 1) y3.toNatClampNeg (G 4 y3.toNatClampNeg))) (fun G_15 : M2 => fX6_moveAll_p4_c33 (fX6_moveAll_p4_c2 n) y1 y3 G_15 J))) else grd (inb y3 75) (grd (inb y3 75) (letb (st2 G 4 (upd (G 4) y3.toNatClampNeg (G 1 y3.toNatClampNeg))) (fun G_18 : M2 => fX6_moveAll_p4_c33 (fX6_moveAll_p4_c2 n) y1 y3 G_18 J)))))
def fX6_moveAll_p4 (x1 : Int32) (G : M2) (J : J2) : Option (M2) := fX6_moveAll_p4_c2  FU x1 (0 : Int32) G J
def rmX6_moveAll_p4 : Room := { frames := 0, cells := 0, slots := 0, locals := 0 }
theorem hdX6_moveAll_p4 : yX6_moveAll.cls = yX6_moveAll.cls ∧ yX6_moveAll.cls ≠ "java/lang/invoke/MethodHandle" ∧ yX6_moveAll.cls ≠ "java/lang/invoke/VarHandle" ∧ (parseMethodDescriptor yX6_moveAll.desc).map (fun d => d.parameters.length) = some 2 := by decide +kernel
set_option maxHeartbeats 4000000 in
set_option maxRecDepth 100000 in
theorem kX6_moveAll_p4 (l : Launch) (g : Gl) (ad : Nat → Nat) (sz : Nat) (G : M2) (J : J2) (x1 : Int32) (G' : M2)  (hf : fX6_moveAll_p4 x1 G J = some G') : MetV l yX6_moveAll (Cond.code yX6_moveAll cX6_moveAll 4 none :: wsL_law) rmX6_moveAll_p4 [.ref (ad 0), .int x1, .ref (ad 4)] g (wM g ad G J) sz (wM g ad G' J) := by
  refine openV (by decide +kernel) (Nat.le_of_ble_eq_true rfl) ?_
  intro p e s m args below meth c A C hE hA hH ls hl
  have hl : lv_has ls 4 [(0, .ref (ad 0)), (1, .int x1), (2, .ref (ad 4))] := hl
  have C : Cx p s m args meth c cX6_moveAll 4 none RX6 := C
  obtain ⟨hx, hb, hml, hown, hT, hr, hlk⟩ := id C
  rw [fX6_moveAll_p4] at hf
  have lp_2 : ∀ (n_2 : Nat) (y1 : Int32) (y3 : Int32) (G : M2) (H : Heap) (locs : List Loc) (ls : Array Slot), fX6_moveAll_p4_c2  n_2 y1 y3 G J = some G' → Hp g A s H locs (wM g ad G J) → lv_has ls 4 [(0, .ref (ad 0)), (1, .int y1), (2, .ref (ad 4)), (3, .int y3)] → W p l e rmX6_moveAll_p4 s m args below meth c H locs 0 0 (QV g A below args s (wM g ad G' J)) (F0 m 2 ls []) := by
    intro n_2
    induction n_2 with
    | zero =>
      intro y1 y3 G H locs  ls hf hH hl
      rw [fX6_moveAll_p4_c2] at hf
      cases hf
    | succ n_2 ih_2 =>
      intro y1 y3 G H locs  ls hf hH hl
      rw [fX6_moveAll_p4_c2] at hf
      have j_39 : ∀ (G : M2) (H : Heap) (locs : List Loc) (ls : Array Slot), fX6_moveAll_p4_c39  G J = some G' → Hp g A s H locs (wM g ad G J) → lv_has ls 4 [] → W p l e rmX6_moveAll_p4 s m args below meth c H locs 0 0 (QV g A below args s (wM g ad G' J)) (F0 m 39 ls []) := by
        intro G H locs  ls hf hH hl
        rw [fX6_moveAll_p4_c39] at hf
        have h1 := Option.some.inj hf
        subst h1
        exact retV C hH dX6_moveAll_39
      have j_33 : ∀ (y1 : Int32) (y3 : Int32) (G : M2) (H : Heap) (locs : List Loc) (ls : Array Slot), fX6_moveAll_p4_c33 (fX6_moveAll_p4_c2 n_2) y1 y3 G J = some G' → Hp g A s H locs (wM g ad G J) → lv_has ls 4 [(0, .ref (ad 0)), (1, .int y1), (2, .ref (ad 4)), (3, .int y3)] → W p l e rmX6_moveAll_p4 s m args below meth c H locs 0 0 (QV g A below args s (wM g ad G' J)) (F0 m 33 ls []) := by
        intro y1 y3 G H locs  ls hf hH hl
        rw [fX6_moveAll_p4_c33] at hf
        obtain ⟨v_10, ev_10⟩ : ∃ z : Int32, z = y3 + (1 : Int32) := ⟨_, rfl⟩
        have hf := letb_at hf v_10 ev_10
        refine lv_iinc (v := v_10) (lv' := [(3, .int v_10), (0, .ref (ad 0)), (1, .int y1), (2, .ref (ad 4))]) hx hb dX6_moveAll_33 hl (k := 3) rfl (by rw [ev_10]; rfl) (by decide) rfl (fun ls hl => ?_)
        refine lv_goto (tgt := 2) hx hb dX6_moveAll_36 (by decide) ?_
        exact ih_2 y1 v_10 G _ _ ls hf hH (lv_sub hl [1, 2, 3, 0] rfl)
      refine lv_iload_n hx hb dX6_moveAll_2 rfl (lv_at hl 3 rfl) ?_
      refine lv_bipush (v := 75) hx hb dX6_moveAll_3 (by decide) ?_
      refine lv_icmp_ge (tgt := 39) hx hb dX6_moveAll_5 (by decide) (fun c_11 => ?_) (fun c_11 => ?_)
      · have hf := if_p hf c_11
        exact j_39 G _ _ ls hf hH (lv_sub hl [] rfl)
      · have hf := if_n hf c_11
        refine lv_iload_n hx hb dX6_moveAll_8 rfl (lv_at hl 1 rfl) ?_
        refine lv_if_eq (tgt := 24) hx hb dX6_moveAll_9 (by decide) (fun c_12 => ?_) (fun c_12 => ?_)
        · have hf := if_p hf c_12
          refine lv_aload_n hx hb dX6_moveAll_24 rfl (lv_at hl 0 rfl) ?_
          refine gf_RX6_7 C hE hH 0 rfl rfl dX6_moveAll_25 ?_
          refine lv_iload_n hx hb dX6_moveAll_28 rfl (lv_at hl 3 rfl) ?_
          refine lv_aload_n hx hb dX6_moveAll_29 rfl (lv_at hl 2 rfl) ?_
          refine lv_iload_n hx hb dX6_moveAll_30 rfl (lv_at hl 3 rfl) ?_
          obtain ⟨hi_13, hf⟩ := grd_inv hf
          refine xiald C hE hH 4 rfl hi_13 dX6_moveAll_31 ?_
          obtain ⟨hi_14, hf⟩ := grd_inv hf
          refine xiast C hE hH 1 rfl hi_14 (fun q : M2 => wM g ad q J) (st2 G 1 (upd (G 1) y3.toNatClampNeg (G 4 y3.toNatClampNeg))) rfl dX6_moveAll_32 (fun G_15 eG_15 H locs hH => ?_)
          have hf := letb_at hf G_15 eG_15
          exact j_33 y1 y3 G_15 _ _ ls hf hH (lv_sub hl [0, 1, 2, 3] rfl)
        · have hf := if_n hf c_12
          refine lv_aload_n hx hb dX6_moveAll_12 rfl (lv_at hl 2 rfl) ?_
          refine lv_iload_n hx hb dX6_moveAll_13 rfl (lv_at hl 3 rfl) ?_
          refine lv_aload_n hx hb dX6_moveAll_14 rfl (lv_at hl 0 rfl) ?_
          refine gf_RX6_7 C hE hH 0 rfl rfl dX6_moveAll_15 ?_
          refine lv_iload_n hx hb dX6_moveAll_18 rfl (lv_at hl 3 rfl) ?_
          obtain ⟨hi_16, hf⟩ := grd_inv hf
          refine xiald C hE hH 1 rfl hi_16 dX6_moveAll_19 ?_
          obtain ⟨hi_17, hf⟩ := grd_inv hf
          refine xiast C hE hH 4 rfl hi_17 (fun q : M2 => wM g ad q J) (st2 G 4 (upd (G 4) y3.toNatClampNeg (G 1 y3.toNatClampNeg))) rfl dX6_moveAll_20 (fun G_18 eG_18 H locs hH => ?_)
          have hf := letb_at hf G_18 eG_18
          refine lv_goto (tgt := 33) hx hb dX6_moveAll_21 (by decide) ?_
          exact j_33 y1 y3 G_18 _ _ ls hf hH (lv_sub hl [0, 1, 2, 3] rfl)
  refine lv_iconst (v := 0) hx hb dX6_moveAll_0 (by decide) ?_
  refine lv_istore_n (lv' := [(3, .int (0 : Int32)), (0, .ref (ad 0)), (1, .int x1), (2, .ref (ad 4))]) hx hb dX6_moveAll_1 rfl hl (by decide) rfl (fun ls hl => ?_)
  exact lp_2 _ x1 (0 : Int32) G _ _ ls hf hH (lv_sub hl [1, 2, 3, 0] rfl)
def fX6_moveAll_p8_c39  (G : M2) (J : J2) : Option (M2) := some G
def fX6_moveAll_p8_c33 (k_2 : Int32 → Int32 → M2 → J2 → Option (M2)) (y1 : Int32) (y3 : Int32) (G : M2) (J : J2) : Option (M2) := letb (y3 + (1 : Int32)) (fun v_10 : Int32 => k_2 y1 v_10 G J)
def fX6_moveAll_p8_c2  : Nat → Int32 → Int32 → M2 → J2 → Option (M2)
  | 0, _, _, _, _ => none
  | n + 1, y1, y3, G, J => (if (75 : Int32) ≤ y3 then fX6_moveAll_p8_c39  G J else (if y1 = 0 then grd (inb y3 75) (grd (inb y3 75) (letb (st2 G 1 (upd (G 1) y3.toNatClampNeg (G 8 y3.toNatClampNeg))) (fun G_15 : M2 => fX6_moveAll_p8_c33 (fX6_moveAll_p8_c2 n) y1 y3 G_15 J))) else grd (inb y3 75) (grd (inb y3 75) (letb (st2 G 8 (upd (G 8) y3.toNatClampNeg (G 1 y3.toNatClampNeg))) (fun G_18 : M2 => fX6_moveAll_p8_c33 (fX6_moveAll_p8_c2 n) y1 y3 G_18 J)))))
def fX6_moveAll_p8 (x1 : Int32) (G : M2) (J : J2) : Option (M2) := fX6_moveAll_p8_c2  FU x1 (0 : Int32) G J
def rmX6_moveAll_p8 : Room := { frames := 0, cells := 0, slots := 0, locals := 0 }
theorem hdX6_moveAll_p8 : yX6_moveAll.cls = yX6_moveAll.cls ∧ yX6_moveAll.cls ≠ "java/lang/invoke/MethodHandle" ∧ yX6_moveAll.cls ≠ "java/lang/invoke/VarHandle" ∧ (parseMethodDescriptor yX6_moveAll.desc).map (fun d => d.parameters.length) = some 2 := by decide +kernel
set_option maxHeartbeats 4000000 in
set_option maxRecDepth 100000 in
theorem kX6_moveAll_p8 (l : Launch) (g : Gl) (ad : Nat → Nat) (sz : Nat) (G : M2) (J : J2) (x1 : Int32) (G' : M2)  (hf : fX6_moveAll_p8 x1 G J = some G') : MetV l yX6_moveAll (Cond.code yX6_moveAll cX6_moveAll 4 none :: wsL_law) rmX6_moveAll_p8 [.ref (ad 0), .int x1, .ref (ad 8)] g (wM g ad G J) sz (wM g ad G' J) := by
  refine openV (by decide +kernel) (Nat.le_of_ble_eq_true rfl) ?_
  intro p e s m args below meth c A C hE hA hH ls hl
  have hl : lv_has ls 4 [(0, .ref (ad 0)), (1, .int x1), (2, .ref (ad 8))] := hl
  have C : Cx p s m args meth c cX6_moveAll 4 none RX6 := C
  obtain ⟨hx, hb, hml, hown, hT, hr, hlk⟩ := id C
  rw [fX6_moveAll_p8] at hf
  have lp_2 : ∀ (n_2 : Nat) (y1 : Int32) (y3 : Int32) (G : M2) (H : Heap) (locs : List Loc) (ls : Array Slot), fX6_moveAll_p8_c2  n_2 y1 y3 G J = some G' → Hp g A s H locs (wM g ad G J) → lv_has ls 4 [(0, .ref (ad 0)), (1, .int y1), (2, .ref (ad 8)), (3, .int y3)] → W p l e rmX6_moveAll_p8 s m args below meth c H locs 0 0 (QV g A below args s (wM g ad G' J)) (F0 m 2 ls []) := by
    intro n_2
    induction n_2 with
    | zero =>
      intro y1 y3 G H locs  ls hf hH hl
      rw [fX6_moveAll_p8_c2] at hf
      cases hf
    | succ n_2 ih_2 =>
      intro y1 y3 G H locs  ls hf hH hl
      rw [fX6_moveAll_p8_c2] at hf
      have j_39 : ∀ (G : M2) (H : Heap) (locs : List Loc) (ls : Array Slot), fX6_moveAll_p8_c39  G J = some G' → Hp g A s H locs (wM g ad G J) → lv_has ls 4 [] → W p l e rmX6_moveAll_p8 s m args below meth c H locs 0 0 (QV g A below args s (wM g ad G' J)) (F0 m 39 ls []) := by
        intro G H locs  ls hf hH hl
        rw [fX6_moveAll_p8_c39] at hf
        have h1 := Option.some.inj hf
        subst h1
        exact retV C hH dX6_moveAll_39
      have j_33 : ∀ (y1 : Int32) (y3 : Int32) (G : M2) (H : Heap) (locs : List Loc) (ls : Array Slot), fX6_moveAll_p8_c33 (fX6_moveAll_p8_c2 n_2) y1 y3 G J = some G' → Hp g A s H locs (wM g ad G J) → lv_has ls 4 [(0, .ref (ad 0)), (1, .int y1), (2, .ref (ad 8)), (3, .int y3)] → W p l e rmX6_moveAll_p8 s m args below meth c H locs 0 0 (QV g A below args s (wM g ad G' J)) (F0 m 33 ls []) := by
        intro y1 y3 G H locs  ls hf hH hl
        rw [fX6_moveAll_p8_c33] at hf
        obtain ⟨v_10, ev_10⟩ : ∃ z : Int32, z = y3 + (1 : Int32) := ⟨_, rfl⟩
        have hf := letb_at hf v_10 ev_10
        refine lv_iinc (v := v_10) (lv' := [(3, .int v_10), (0, .ref (ad 0)), (1, .int y1), (2, .ref (ad 8))]) hx hb dX6_moveAll_33 hl (k := 3) rfl (by rw [ev_10]; rfl) (by decide) rfl (fun ls hl => ?_)
        refine lv_goto (tgt := 2) hx hb dX6_moveAll_36 (by decide) ?_
        exact ih_2 y1 v_10 G _ _ ls hf hH (lv_sub hl [1, 2, 3, 0] rfl)
      refine lv_iload_n hx hb dX6_moveAll_2 rfl (lv_at hl 3 rfl) ?_
      refine lv_bipush (v := 75) hx hb dX6_moveAll_3 (by decide) ?_
      refine lv_icmp_ge (tgt := 39) hx hb dX6_moveAll_5 (by decide) (fun c_11 => ?_) (fun c_11 => ?_)
      · have hf := if_p hf c_11
        exact j_39 G _ _ ls hf hH (lv_sub hl [] rfl)
      · have hf := if_n hf c_11
        refine lv_iload_n hx hb dX6_moveAll_8 rfl (lv_at hl 1 rfl) ?_
        refine lv_if_eq (tgt := 24) hx hb dX6_moveAll_9 (by decide) (fun c_12 => ?_) (fun c_12 => ?_)
        · have hf := if_p hf c_12
          refine lv_aload_n hx hb dX6_moveAll_24 rfl (lv_at hl 0 rfl) ?_
          refine gf_RX6_7 C hE hH 0 rfl rfl dX6_moveAll_25 ?_
          refine lv_iload_n hx hb dX6_moveAll_28 rfl (lv_at hl 3 rfl) ?_
          refine lv_aload_n hx hb dX6_moveAll_29 rfl (lv_at hl 2 rfl) ?_
          refine lv_iload_n hx hb dX6_moveAll_30 rfl (lv_at hl 3 rfl) ?_
          obtain ⟨hi_13, hf⟩ := grd_inv hf
          refine xiald C hE hH 8 rfl hi_13 dX6_moveAll_31 ?_
          obtain ⟨hi_14, hf⟩ := grd_inv hf
          refine xiast C hE hH 1 rfl hi_14 (fun q : M2 => wM g ad q J) (st2 G 1 (upd (G 1) y3.toNatClampNeg (G 8 y3.toNatClampNeg))) rfl dX6_moveAll_32 (fun G_15 eG_15 H locs hH => ?_)
          have hf := letb_at hf G_15 eG_15
          exact j_33 y1 y3 G_15 _ _ ls hf hH (lv_sub hl [0, 1, 2, 3] rfl)
        · have hf := if_n hf c_12
          refine lv_aload_n hx hb dX6_moveAll_12 rfl (lv_at hl 2 rfl) ?_
          refine lv_iload_n hx hb dX6_moveAll_13 rfl (lv_at hl 3 rfl) ?_
          refine lv_aload_n hx hb dX6_moveAll_14 rfl (lv_at hl 0 rfl) ?_
          refine gf_RX6_7 C hE hH 0 rfl rfl dX6_moveAll_15 ?_
          refine lv_iload_n hx hb dX6_moveAll_18 rfl (lv_at hl 3 rfl) ?_
          obtain ⟨hi_16, hf⟩ := grd_inv hf
          refine xiald C hE hH 1 rfl hi_16 dX6_moveAll_19 ?_
          obtain ⟨hi_17, hf⟩ := grd_inv hf
          refine xiast C hE hH 8 rfl hi_17 (fun q : M2 => wM g ad q J) (st2 G 8 (upd (G 8) y3.toNatClampNeg (G 1 y3.toNatClampNeg))) rfl dX6_moveAll_20 (fun G_18 eG_18 H locs hH => ?_)
          have hf := letb_at hf G_18 eG_18
          refine lv_goto (tgt := 33) hx hb dX6_moveAll_21 (by decide) ?_
          exact j_33 y1 y3 G_18 _ _ ls hf hH (lv_sub hl [0, 1, 2, 3] rfl)
  refine lv_iconst (v := 0) hx hb dX6_moveAll_0 (by decide) ?_
  refine lv_istore_n (lv' := [(3, .int (0 : Int32)), (0, .ref (ad 0)), (1, .int x1), (2, .ref (ad 8))]) hx hb dX6_moveAll_1 rfl hl (by decide) rfl (fun ls hl => ?_)
  exact lp_2 _ x1 (0 : Int32) G _ _ ls hf hH (lv_sub hl [1, 2, 3, 0] rfl)
def fX6_moveAll_p9_c39  (G : M2) (J : J2) : Option (M2) := some G
def fX6_moveAll_p9_c33 (k_2 : Int32 → Int32 → M2 → J2 → Option (M2)) (y1 : Int32) (y3 : Int32) (G : M2) (J : J2) : Option (M2) := letb (y3 + (1 : Int32)) (fun v_10 : Int32 => k_2 y1 v_10 G J)
def fX6_moveAll_p9_c2  : Nat → Int32 → Int32 → M2 → J2 → Option (M2)
  | 0, _, _, _, _ => none
  | n + 1, y1, y3, G, J => (if (75 : Int32) ≤ y3 then fX6_moveAll_p9_c39  G J else (if y1 = 0 then grd (inb y3 75) (grd (inb y3 75) (letb (st2 G 1 (upd (G 1) y3.toNatClampNeg (G 9 y3.toNatClampNeg))) (fun G_15 : M2 => fX6_moveAll_p9_c33 (fX6_moveAll_p9_c2 n) y1 y3 G_15 J))) else grd (inb y3 75) (grd (inb y3 75) (letb (st2 G 9 (upd (G 9) y3.toNatClampNeg (G 1 y3.toNatClampNeg))) (fun G_18 : M2 => fX6_moveAll_p9_c33 (fX6_moveAll_p9_c2 n) y1 y3 G_18 J)))))
def fX6_moveAll_p9 (x1 : Int32) (G : M2) (J : J2) : Option (M2) := fX6_moveAll_p9_c2  FU x1 (0 : Int32) G J
def rmX6_moveAll_p9 : Room := { frames := 0, cells := 0, slots := 0, locals := 0 }
theorem hdX6_moveAll_p9 : yX6_moveAll.cls = yX6_moveAll.cls ∧ yX6_moveAll.cls ≠ "java/lang/invoke/MethodHandle" ∧ yX6_moveAll.cls ≠ "java/lang/invoke/VarHandle" ∧ (parseMethodDescriptor yX6_moveAll.desc).map (fun d => d.parameters.length) = some 2 := by decide +kernel
set_option maxHeartbeats 4000000 in
set_option maxRecDepth 100000 in
theorem kX6_moveAll_p9 (l : Launch) (g : Gl) (ad : Nat → Nat) (sz : Nat) (G : M2) (J : J2) (x1 : Int32) (G' : M2)  (hf : fX6_moveAll_p9 x1 G J = some G') : MetV l yX6_moveAll (Cond.code yX6_moveAll cX6_moveAll 4 none :: wsL_law) rmX6_moveAll_p9 [.ref (ad 0), .int x1, .ref (ad 9)] g (wM g ad G J) sz (wM g ad G' J) := by
  refine openV (by decide +kernel) (Nat.le_of_ble_eq_true rfl) ?_
  intro p e s m args below meth c A C hE hA hH ls hl
  have hl : lv_has ls 4 [(0, .ref (ad 0)), (1, .int x1), (2, .ref (ad 9))] := hl
  have C : Cx p s m args meth c cX6_moveAll 4 none RX6 := C
  obtain ⟨hx, hb, hml, hown, hT, hr, hlk⟩ := id C
  rw [fX6_moveAll_p9] at hf
  have lp_2 : ∀ (n_2 : Nat) (y1 : Int32) (y3 : Int32) (G : M2) (H : Heap) (locs : List Loc) (ls : Array Slot), fX6_moveAll_p9_c2  n_2 y1 y3 G J = some G' → Hp g A s H locs (wM g ad G J) → lv_has ls 4 [(0, .ref (ad 0)), (1, .int y1), (2, .ref (ad 9)), (3, .int y3)] → W p l e rmX6_moveAll_p9 s m args below meth c H locs 0 0 (QV g A below args s (wM g ad G' J)) (F0 m 2 ls []) := by
    intro n_2
    induction n_2 with
    | zero =>
      intro y1 y3 G H locs  ls hf hH hl
      rw [fX6_moveAll_p9_c2] at hf
      cases hf
    | succ n_2 ih_2 =>
      intro y1 y3 G H locs  ls hf hH hl
      rw [fX6_moveAll_p9_c2] at hf
      have j_39 : ∀ (G : M2) (H : Heap) (locs : List Loc) (ls : Array Slot), fX6_moveAll_p9_c39  G J = some G' → Hp g A s H locs (wM g ad G J) → lv_has ls 4 [] → W p l e rmX6_moveAll_p9 s m args below meth c H locs 0 0 (QV g A below args s (wM g ad G' J)) (F0 m 39 ls []) := by
        intro G H locs  ls hf hH hl
        rw [fX6_moveAll_p9_c39] at hf
        have h1 := Option.some.inj hf
        subst h1
        exact retV C hH dX6_moveAll_39
      have j_33 : ∀ (y1 : Int32) (y3 : Int32) (G : M2) (H : Heap) (locs : List Loc) (ls : Array Slot), fX6_moveAll_p9_c33 (fX6_moveAll_p9_c2 n_2) y1 y3 G J = some G' → Hp g A s H locs (wM g ad G J) → lv_has ls 4 [(0, .ref (ad 0)), (1, .int y1), (2, .ref (ad 9)), (3, .int y3)] → W p l e rmX6_moveAll_p9 s m args below meth c H locs 0 0 (QV g A below args s (wM g ad G' J)) (F0 m 33 ls []) := by
        intro y1 y3 G H locs  ls hf hH hl
        rw [fX6_moveAll_p9_c33] at hf
        obtain ⟨v_10, ev_10⟩ : ∃ z : Int32, z = y3 + (1 : Int32) := ⟨_, rfl⟩
        have hf := letb_at hf v_10 ev_10
        refine lv_iinc (v := v_10) (lv' := [(3, .int v_10), (0, .ref (ad 0)), (1, .int y1), (2, .ref (ad 9))]) hx hb dX6_moveAll_33 hl (k := 3) rfl (by rw [ev_10]; rfl) (by decide) rfl (fun ls hl => ?_)
        refine lv_goto (tgt := 2) hx hb dX6_moveAll_36 (by decide) ?_
        exact ih_2 y1 v_10 G _ _ ls hf hH (lv_sub hl [1, 2, 3, 0] rfl)
      refine lv_iload_n hx hb dX6_moveAll_2 rfl (lv_at hl 3 rfl) ?_
      refine lv_bipush (v := 75) hx hb dX6_moveAll_3 (by decide) ?_
      refine lv_icmp_ge (tgt := 39) hx hb dX6_moveAll_5 (by decide) (fun c_11 => ?_) (fun c_11 => ?_)
      · have hf := if_p hf c_11
        exact j_39 G _ _ ls hf hH (lv_sub hl [] rfl)
      · have hf := if_n hf c_11
        refine lv_iload_n hx hb dX6_moveAll_8 rfl (lv_at hl 1 rfl) ?_
        refine lv_if_eq (tgt := 24) hx hb dX6_moveAll_9 (by decide) (fun c_12 => ?_) (fun c_12 => ?_)
        · have hf := if_p hf c_12
          refine lv_aload_n hx hb dX6_moveAll_24 rfl (lv_at hl 0 rfl) ?_
          refine gf_RX6_7 C hE hH 0 rfl rfl dX6_moveAll_25 ?_
          refine lv_iload_n hx hb dX6_moveAll_28 rfl (lv_at hl 3 rfl) ?_
          refine lv_aload_n hx hb dX6_moveAll_29 rfl (lv_at hl 2 rfl) ?_
          refine lv_iload_n hx hb dX6_moveAll_30 rfl (lv_at hl 3 rfl) ?_
          obtain ⟨hi_13, hf⟩ := grd_inv hf
          refine xiald C hE hH 9 rfl hi_13 dX6_moveAll_31 ?_
          obtain ⟨hi_14, hf⟩ := grd_inv hf
          refine xiast C hE hH 1 rfl hi_14 (fun q : M2 => wM g ad q J) (st2 G 1 (upd (G 1) y3.toNatClampNeg (G 9 y3.toNatClampNeg))) rfl dX6_moveAll_32 (fun G_15 eG_15 H locs hH => ?_)
          have hf := letb_at hf G_15 eG_15
          exact j_33 y1 y3 G_15 _ _ ls hf hH (lv_sub hl [0, 1, 2, 3] rfl)
        · have hf := if_n hf c_12
          refine lv_aload_n hx hb dX6_moveAll_12 rfl (lv_at hl 2 rfl) ?_
          refine lv_iload_n hx hb dX6_moveAll_13 rfl (lv_at hl 3 rfl) ?_
          refine lv_aload_n hx hb dX6_moveAll_14 rfl (lv_at hl 0 rfl) ?_
          refine gf_RX6_7 C hE hH 0 rfl rfl dX6_moveAll_15 ?_
          refine lv_iload_n hx hb dX6_moveAll_18 rfl (lv_at hl 3 rfl) ?_
          obtain ⟨hi_16, hf⟩ := grd_inv hf
          refine xiald C hE hH 1 rfl hi_16 dX6_moveAll_19 ?_
          obtain ⟨hi_17, hf⟩ := grd_inv hf
          refine xiast C hE hH 9 rfl hi_17 (fun q : M2 => wM g ad q J) (st2 G 9 (upd (G 9) y3.toNatClampNeg (G 1 y3.toNatClampNeg))) rfl dX6_moveAll_20 (fun G_18 eG_18 H locs hH => ?_)
          have hf := letb_at hf G_18 eG_18
          refine lv_goto (tgt := 33) hx hb dX6_moveAll_21 (by decide) ?_
          exact j_33 y1 y3 G_18 _ _ ls hf hH (lv_sub hl [0, 1, 2, 3] rfl)
  refine lv_iconst (v := 0) hx hb dX6_moveAll_0 (by decide) ?_
  refine lv_istore_n (lv' := [(3, .int (0 : Int32)), (0, .ref (ad 0)), (1, .int x1), (2, .ref (ad 9))]) hx hb dX6_moveAll_1 rfl hl (by decide) rfl (fun ls hl => ?_)
  exact lp_2 _ x1 (0 : Int32) G _ _ ls hf hH (lv_sub hl [1, 2, 3, 0] rfl)
def fX6_in_c15  (z0 : Int32) : Option (Int32) := grd (isB z0) (some z0)
def fX6_in_c14   : Option (Int32) := fX6_in_c15  (0 : Int32)
def fX6_in (x1 : Int32) (x2 : Int32) (x3 : Int32) : Option (Int32) := (if x1 < x2 then fX6_in_c14   else (if x3 < x1 then fX6_in_c14   else fX6_in_c15  (1 : Int32)))
def rmX6_in : Room := { frames := 0, cells := 0, slots := 0, locals := 0 }
theorem hdX6_in : yX6_in.cls = yX6_in.cls ∧ yX6_in.cls ≠ "java/lang/invoke/MethodHandle" ∧ yX6_in.cls ≠ "java/lang/invoke/VarHandle" ∧ (parseMethodDescriptor yX6_in.desc).map (fun d => d.parameters.length) = some 3 := by decide +kernel
set_option maxHeartbeats 4000000 in
set_option maxRecDepth 100000 in
theorem kX6_in (l : Launch) (g : Gl) (ad : Nat → Nat) (sz : Nat)  (x1 : Int32) (x2 : Int32) (x3 : Int32) (r : Int32)  (hf : fX6_in x1 x2 x3 = some r) : MetPI l yX6_in (Cond.code yX6_in cX6_in 3 (some .boolean) :: wsL_law) rmX6_in [.int x1, .int x2, .int x3] g ([]) sz r := by
  refine openPI (by decide +kernel) (Nat.le_of_ble_eq_true rfl) ?_
  intro p e s m args below meth c A C hE hA hH ls hl
  have hl : lv_has ls 3 [(0, .int x1), (1, .int x2), (2, .int x3)] := hl
  have C : Cx p s m args meth c cX6_in 3 (some .boolean) RX6 := C
  obtain ⟨hx, hb, hml, hown, hT, hr, hlk⟩ := id C
  rw [fX6_in] at hf
  have j_15 : ∀ (z0 : Int32) (ls : Array Slot), fX6_in_c15  z0 = some r → lv_has ls 3 [] → W p l e rmX6_in s m args below meth c s.heap [] 0 0 (QPI below args s r) (F0 m 15 ls [.int z0]) := by
    intro z0  ls hf hl
    rw [fX6_in_c15] at hf
    obtain ⟨hz, hf⟩ := grd_inv hf
    have h1 := Option.some.inj hf
    subst h1
    exact retPI C (isB_nar hz) dX6_in_15
  have j_14 : ∀  (ls : Array Slot), fX6_in_c14   = some r → lv_has ls 3 [] → W p l e rmX6_in s m args below meth c s.heap [] 0 0 (QPI below args s r) (F0 m 14 ls []) := by
    intro  ls hf hl
    rw [fX6_in_c14] at hf
    refine lv_iconst (v := 0) hx hb dX6_in_14 (by decide) ?_
    exact j_15 (0 : Int32) ls hf (lv_sub hl [] rfl)
  refine lv_iload_n hx hb dX6_in_0 rfl (lv_at hl 0 rfl) ?_
  refine lv_iload_n hx hb dX6_in_1 rfl (lv_at hl 1 rfl) ?_
  refine lv_icmp_lt (tgt := 14) hx hb dX6_in_2 (by decide) (fun c_3 => ?_) (fun c_3 => ?_)
  · have hf := if_p hf c_3
    exact j_14  ls hf (lv_sub hl [] rfl)
  · have hf := if_n hf c_3
    refine lv_iload_n hx hb dX6_in_5 rfl (lv_at hl 0 rfl) ?_
    refine lv_iload_n hx hb dX6_in_6 rfl (lv_at hl 2 rfl) ?_
    refine lv_icmp_gt (tgt := 14) hx hb dX6_in_7 (by decide) (fun c_4 => ?_) (fun c_4 => ?_)
    · have hf := if_p hf c_4
      exact j_14  ls hf (lv_sub hl [] rfl)
    · have hf := if_n hf c_4
      refine lv_iconst (v := 1) hx hb dX6_in_10 (by decide) ?_
      refine lv_goto (tgt := 15) hx hb dX6_in_11 (by decide) ?_
      exact j_15 (1 : Int32) ls hf (lv_sub hl [] rfl)
def fX6_finds (x1 : Int32) (G : M2) (J : J2) : Option (Int32 × M2) := letb ((-1000000001 : Int32) - x1) (fun v_5 : Int32 => grd (inb v_5 7) (grd (inb v_5 7) (letb (st2 G 2 (upd (G 2) v_5.toNatClampNeg ((G 2 v_5.toNatClampNeg) + (1 : Int32)))) (fun G_8 : M2 => some (x1, G_8)))))
def rmX6_finds : Room := { frames := 0, cells := 0, slots := 0, locals := 0 }
theorem hdX6_finds : yX6_finds.cls = yX6_finds.cls ∧ yX6_finds.cls ≠ "java/lang/invoke/MethodHandle" ∧ yX6_finds.cls ≠ "java/lang/invoke/VarHandle" ∧ (parseMethodDescriptor yX6_finds.desc).map (fun d => d.parameters.length) = some 1 := by decide +kernel
set_option maxHeartbeats 4000000 in
set_option maxRecDepth 100000 in
theorem kX6_finds (l : Launch) (g : Gl) (ad : Nat → Nat) (sz : Nat) (G : M2) (J : J2) (x1 : Int32) (r : Int32) (G' : M2)  (hf : fX6_finds x1 G J = some (r, G')) : MetI l yX6_finds (Cond.code yX6_finds cX6_finds 2 (some .int) :: wsL_law) rmX6_finds [.ref (ad 0), .int x1] g (wM g ad G J) sz r (wM g ad G' J) := by
  refine openI (by decide +kernel) (Nat.le_of_ble_eq_true rfl) ?_
  intro p e s m args below meth c A C hE hA hH ls hl
  have hl : lv_has ls 2 [(0, .ref (ad 0)), (1, .int x1)] := hl
  have C : Cx p s m args meth c cX6_finds 2 (some .int) RX6 := C
  obtain ⟨hx, hb, hml, hown, hT, hr, hlk⟩ := id C
  rw [fX6_finds] at hf
  refine lv_aload_n hx hb dX6_finds_0 rfl (lv_at hl 0 rfl) ?_
  refine gf_RX6_13 C hE hH 0 rfl rfl dX6_finds_1 ?_
  refine lv_ldc hx hb hown (hT _ tw_5_1) dX6_finds_4 ?_
  refine lv_iload_n hx hb dX6_finds_6 rfl (lv_at hl 1 rfl) ?_
  refine lv_isub hx hb dX6_finds_7 ?_
  refine lv_topi (fun v_5 ev_5 => ?_)
  have hf := letb_at hf v_5 ev_5
  refine lv_dup2_11 hx hb dX6_finds_8 rfl rfl ?_
  obtain ⟨hi_6, hf⟩ := grd_inv hf
  refine xiald C hE hH 2 rfl hi_6 dX6_finds_9 ?_
  refine lv_iconst (v := 1) hx hb dX6_finds_10 (by decide) ?_
  refine lv_iadd hx hb dX6_finds_11 ?_
  obtain ⟨hi_7, hf⟩ := grd_inv hf
  refine xiast C hE hH 2 rfl hi_7 (fun q : M2 => wM g ad q J) (st2 G 2 (upd (G 2) v_5.toNatClampNeg ((G 2 v_5.toNatClampNeg) + (1 : Int32)))) rfl dX6_finds_12 (fun G_8 eG_8 H locs hH => ?_)
  have hf := letb_at hf G_8 eG_8
  refine lv_iload_n hx hb dX6_finds_13 rfl (lv_at hl 1 rfl) ?_
  have hf := Option.some.inj hf
  obtain ⟨h1, h2⟩ := Prod.mk.inj hf
  subst h1
  subst h2
  exact retI C hH rfl dX6_finds_14
def fX6_held_c19  (z0 : Int32) : Option (Int32) := some z0
def fX6_held (x1 : Int32) (x2 : Int32) (x3 : Int32) : Option (Int32) := (if x2 ≤ x1 then (if x1 ≤ x3 then fX6_held_c19  x1 else fX6_held_c19  x3) else fX6_held_c19  x2)
def rmX6_held : Room := { frames := 0, cells := 0, slots := 0, locals := 0 }
theorem hdX6_held : yX6_held.cls = yX6_held.cls ∧ yX6_held.cls ≠ "java/lang/invoke/MethodHandle" ∧ yX6_held.cls ≠ "java/lang/invoke/VarHandle" ∧ (parseMethodDescriptor yX6_held.desc).map (fun d => d.parameters.length) = some 3 := by decide +kernel
set_option maxHeartbeats 4000000 in
set_option maxRecDepth 100000 in
theorem kX6_held (l : Launch) (g : Gl) (ad : Nat → Nat) (sz : Nat)  (x1 : Int32) (x2 : Int32) (x3 : Int32) (r : Int32)  (hf : fX6_held x1 x2 x3 = some r) : MetPI l yX6_held (Cond.code yX6_held cX6_held 3 (some .int) :: wsL_law) rmX6_held [.int x1, .int x2, .int x3] g ([]) sz r := by
  refine openPI (by decide +kernel) (Nat.le_of_ble_eq_true rfl) ?_
  intro p e s m args below meth c A C hE hA hH ls hl
  have hl : lv_has ls 3 [(0, .int x1), (1, .int x2), (2, .int x3)] := hl
  have C : Cx p s m args meth c cX6_held 3 (some .int) RX6 := C
  obtain ⟨hx, hb, hml, hown, hT, hr, hlk⟩ := id C
  rw [fX6_held] at hf
  have j_19 : ∀ (z0 : Int32) (ls : Array Slot), fX6_held_c19  z0 = some r → lv_has ls 3 [] → W p l e rmX6_held s m args below meth c s.heap [] 0 0 (QPI below args s r) (F0 m 19 ls [.int z0]) := by
    intro z0  ls hf hl
    rw [fX6_held_c19] at hf
    have h1 := Option.some.inj hf
    subst h1
    exact retPI C rfl dX6_held_19
  refine lv_iload_n hx hb dX6_held_0 rfl (lv_at hl 0 rfl) ?_
  refine lv_iload_n hx hb dX6_held_1 rfl (lv_at hl 1 rfl) ?_
  refine lv_icmp_ge (tgt := 9) hx hb dX6_held_2 (by decide) (fun c_3 => ?_) (fun c_3 => ?_)
  · have hf := if_p hf c_3
    refine lv_iload_n hx hb dX6_held_9 rfl (lv_at hl 0 rfl) ?_
    refine lv_iload_n hx hb dX6_held_10 rfl (lv_at hl 2 rfl) ?_
    refine lv_icmp_le (tgt := 18) hx hb dX6_held_11 (by decide) (fun c_4 => ?_) (fun c_4 => ?_)
    · have hf := if_p hf c_4
      refine lv_iload_n hx hb dX6_held_18 rfl (lv_at hl 0 rfl) ?_
      exact j_19 x1 ls hf (lv_sub hl [] rfl)
    · have hf := if_n hf c_4
      refine lv_iload_n hx hb dX6_held_14 rfl (lv_at hl 2 rfl) ?_
      refine lv_goto (tgt := 19) hx hb dX6_held_15 (by decide) ?_
      exact j_19 x3 ls hf (lv_sub hl [] rfl)
  · have hf := if_n hf c_3
    refine lv_iload_n hx hb dX6_held_5 rfl (lv_at hl 1 rfl) ?_
    refine lv_goto (tgt := 19) hx hb dX6_held_6 (by decide) ?_
    exact j_19 x2 ls hf (lv_sub hl [] rfl)
def fX6_its (x1 : Int32) (x2 : Int32) (G : M2) (J : J2) : Option (Int32) := grd (inb (((35 : Int32) + ((5 : Int32) * x1)) + x2) 75) (some (G 1 (((35 : Int32) + ((5 : Int32) * x1)) + x2).toNatClampNeg))
def rmX6_its : Room := { frames := 0, cells := 0, slots := 0, locals := 0 }
theorem hdX6_its : yX6_its.cls = yX6_its.cls ∧ yX6_its.cls ≠ "java/lang/invoke/MethodHandle" ∧ yX6_its.cls ≠ "java/lang/invoke/VarHandle" ∧ (parseMethodDescriptor yX6_its.desc).map (fun d => d.parameters.length) = some 2 := by decide +kernel
set_option maxHeartbeats 4000000 in
set_option maxRecDepth 100000 in
theorem kX6_its (l : Launch) (g : Gl) (ad : Nat → Nat) (sz : Nat) (G : M2) (J : J2) (x1 : Int32) (x2 : Int32) (r : Int32)  (hf : fX6_its x1 x2 G J = some r) : MetPI l yX6_its (Cond.code yX6_its cX6_its 3 (some .int) :: wsL_law) rmX6_its [.ref (ad 0), .int x1, .int x2] g (wM g ad G J) sz r := by
  refine openPI (by decide +kernel) (Nat.le_of_ble_eq_true rfl) ?_
  intro p e s m args below meth c A C hE hA hH ls hl
  have hl : lv_has ls 3 [(0, .ref (ad 0)), (1, .int x1), (2, .int x2)] := hl
  have C : Cx p s m args meth c cX6_its 3 (some .int) RX6 := C
  obtain ⟨hx, hb, hml, hown, hT, hr, hlk⟩ := id C
  rw [fX6_its] at hf
  refine lv_aload_n hx hb dX6_its_0 rfl (lv_at hl 0 rfl) ?_
  refine gf_RX6_7 C hE hH 0 rfl rfl dX6_its_1 ?_
  refine lv_bipush (v := 35) hx hb dX6_its_4 (by decide) ?_
  refine lv_iconst (v := 5) hx hb dX6_its_6 (by decide) ?_
  refine lv_iload_n hx hb dX6_its_7 rfl (lv_at hl 1 rfl) ?_
  refine lv_imul hx hb dX6_its_8 ?_
  refine lv_iadd hx hb dX6_its_9 ?_
  refine lv_iload_n hx hb dX6_its_10 rfl (lv_at hl 2 rfl) ?_
  refine lv_iadd hx hb dX6_its_11 ?_
  obtain ⟨hi_2, hf⟩ := grd_inv hf
  refine xiald C hE hH 1 rfl hi_2 dX6_its_12 ?_
  have h1 := Option.some.inj hf
  subst h1
  exact retPI C rfl dX6_its_13
def fX6_puts (x1 : Int32) (x2 : Int32) (x3 : Int32) (G : M2) (J : J2) : Option (M2) := grd (inb (((35 : Int32) + ((5 : Int32) * x1)) + x2) 75) (letb (st2 G 1 (upd (G 1) (((35 : Int32) + ((5 : Int32) * x1)) + x2).toNatClampNeg x3)) (fun G_4 : M2 => some G_4))
def rmX6_puts : Room := { frames := 0, cells := 0, slots := 0, locals := 0 }
theorem hdX6_puts : yX6_puts.cls = yX6_puts.cls ∧ yX6_puts.cls ≠ "java/lang/invoke/MethodHandle" ∧ yX6_puts.cls ≠ "java/lang/invoke/VarHandle" ∧ (parseMethodDescriptor yX6_puts.desc).map (fun d => d.parameters.length) = some 3 := by decide +kernel
set_option maxHeartbeats 4000000 in
set_option maxRecDepth 100000 in
theorem kX6_puts (l : Launch) (g : Gl) (ad : Nat → Nat) (sz : Nat) (G : M2) (J : J2) (x1 : Int32) (x2 : Int32) (x3 : Int32) (G' : M2)  (hf : fX6_puts x1 x2 x3 G J = some G') : MetV l yX6_puts (Cond.code yX6_puts cX6_puts 4 none :: wsL_law) rmX6_puts [.ref (ad 0), .int x1, .int x2, .int x3] g (wM g ad G J) sz (wM g ad G' J) := by
  refine openV (by decide +kernel) (Nat.le_of_ble_eq_true rfl) ?_
  intro p e s m args below meth c A C hE hA hH ls hl
  have hl : lv_has ls 4 [(0, .ref (ad 0)), (1, .int x1), (2, .int x2), (3, .int x3)] := hl
  have C : Cx p s m args meth c cX6_puts 4 none RX6 := C
  obtain ⟨hx, hb, hml, hown, hT, hr, hlk⟩ := id C
  rw [fX6_puts] at hf
  refine lv_aload_n hx hb dX6_puts_0 rfl (lv_at hl 0 rfl) ?_
  refine gf_RX6_7 C hE hH 0 rfl rfl dX6_puts_1 ?_
  refine lv_bipush (v := 35) hx hb dX6_puts_4 (by decide) ?_
  refine lv_iconst (v := 5) hx hb dX6_puts_6 (by decide) ?_
  refine lv_iload_n hx hb dX6_puts_7 rfl (lv_at hl 1 rfl) ?_
  refine lv_imul hx hb dX6_puts_8 ?_
  refine lv_iadd hx hb dX6_puts_9 ?_
  refine lv_iload_n hx hb dX6_puts_10 rfl (lv_at hl 2 rfl) ?_
  refine lv_iadd hx hb dX6_puts_11 ?_
  refine lv_iload_n hx hb dX6_puts_12 rfl (lv_at hl 3 rfl) ?_
  obtain ⟨hi_3, hf⟩ := grd_inv hf
  refine xiast C hE hH 1 rfl hi_3 (fun q : M2 => wM g ad q J) (st2 G 1 (upd (G 1) (((35 : Int32) + ((5 : Int32) * x1)) + x2).toNatClampNeg x3)) rfl dX6_puts_13 (fun G_4 eG_4 H locs hH => ?_)
  have hf := letb_at hf G_4 eG_4
  have h1 := Option.some.inj hf
  subst h1
  exact retV C hH dX6_puts_14
def fX6_becomes (x1 : Int32) (x2 : Int32) (G : M2) (J : J2) : Option (Int32 × M2) := grd (inb x1 75) (letb (G 1 x1.toNatClampNeg) (fun v_6 : Int32 => grd (inb x1 75) (letb (st2 G 1 (upd (G 1) x1.toNatClampNeg x2)) (fun G_8 : M2 => some (v_6, G_8)))))
def rmX6_becomes : Room := { frames := 0, cells := 0, slots := 0, locals := 0 }
theorem hdX6_becomes : yX6_becomes.cls = yX6_becomes.cls ∧ yX6_becomes.cls ≠ "java/lang/invoke/MethodHandle" ∧ yX6_becomes.cls ≠ "java/lang/invoke/VarHandle" ∧ (parseMethodDescriptor yX6_becomes.desc).map (fun d => d.parameters.length) = some 2 := by decide +kernel
set_option maxHeartbeats 4000000 in
set_option maxRecDepth 100000 in
theorem kX6_becomes (l : Launch) (g : Gl) (ad : Nat → Nat) (sz : Nat) (G : M2) (J : J2) (x1 : Int32) (x2 : Int32) (r : Int32) (G' : M2)  (hf : fX6_becomes x1 x2 G J = some (r, G')) : MetI l yX6_becomes (Cond.code yX6_becomes cX6_becomes 4 (some .int) :: wsL_law) rmX6_becomes [.ref (ad 0), .int x1, .int x2] g (wM g ad G J) sz r (wM g ad G' J) := by
  refine openI (by decide +kernel) (Nat.le_of_ble_eq_true rfl) ?_
  intro p e s m args below meth c A C hE hA hH ls hl
  have hl : lv_has ls 4 [(0, .ref (ad 0)), (1, .int x1), (2, .int x2)] := hl
  have C : Cx p s m args meth c cX6_becomes 4 (some .int) RX6 := C
  obtain ⟨hx, hb, hml, hown, hT, hr, hlk⟩ := id C
  rw [fX6_becomes] at hf
  refine lv_aload_n hx hb dX6_becomes_0 rfl (lv_at hl 0 rfl) ?_
  refine gf_RX6_7 C hE hH 0 rfl rfl dX6_becomes_1 ?_
  refine lv_iload_n hx hb dX6_becomes_4 rfl (lv_at hl 1 rfl) ?_
  obtain ⟨hi_5, hf⟩ := grd_inv hf
  refine xiald C hE hH 1 rfl hi_5 dX6_becomes_5 ?_
  refine lv_topi (fun v_6 ev_6 => ?_)
  have hf := letb_at hf v_6 ev_6
  refine lv_istore_n (lv' := [(3, .int v_6), (0, .ref (ad 0)), (1, .int x1), (2, .int x2)]) hx hb dX6_becomes_6 rfl hl (by decide) rfl (fun ls hl => ?_)
  refine lv_aload_n hx hb dX6_becomes_7 rfl (lv_at hl 1 rfl) ?_
  refine gf_RX6_7 C hE hH 0 rfl rfl dX6_becomes_8 ?_
  refine lv_iload_n hx hb dX6_becomes_11 rfl (lv_at hl 2 rfl) ?_
  refine lv_iload_n hx hb dX6_becomes_12 rfl (lv_at hl 3 rfl) ?_
  obtain ⟨hi_7, hf⟩ := grd_inv hf
  refine xiast C hE hH 1 rfl hi_7 (fun q : M2 => wM g ad q J) (st2 G 1 (upd (G 1) x1.toNatClampNeg x2)) rfl dX6_becomes_13 (fun G_8 eG_8 H locs hH => ?_)
  have hf := letb_at hf G_8 eG_8
  refine lv_iload_n hx hb dX6_becomes_14 rfl (lv_at hl 0 rfl) ?_
  have hf := Option.some.inj hf
  obtain ⟨h1, h2⟩ := Prod.mk.inj hf
  subst h1
  subst h2
  exact retI C hH rfl dX6_becomes_15
def fX6_isOne (x1 : Int32) (G : M2) (J : J2) : Option (Int32) := grd (inb (6 : Int32) 75) ((fX6_in x1 (0 : Int32) ((G 1 (6 : Int32).toNatClampNeg) - (1 : Int32))).bind (fun (r_5 : Int32) => grd (isB r_5) (some r_5)))
def rmX6_isOne : Room := { frames := 1, cells := 0, slots := 0, locals := 22 }
theorem hdX6_isOne : yX6_isOne.cls = yX6_isOne.cls ∧ yX6_isOne.cls ≠ "java/lang/invoke/MethodHandle" ∧ yX6_isOne.cls ≠ "java/lang/invoke/VarHandle" ∧ (parseMethodDescriptor yX6_isOne.desc).map (fun d => d.parameters.length) = some 1 := by decide +kernel
set_option maxHeartbeats 4000000 in
set_option maxRecDepth 100000 in
theorem kX6_isOne (l : Launch) (g : Gl) (ad : Nat → Nat) (sz : Nat) (G : M2) (J : J2) (x1 : Int32) (r : Int32)  (hf : fX6_isOne x1 G J = some r) : MetPI l yX6_isOne (Cond.code yX6_isOne cX6_isOne 2 (some .boolean) :: wsL_law) rmX6_isOne [.ref (ad 0), .int x1] g (wM g ad G J) sz r := by
  refine openPI (by decide +kernel) (Nat.le_of_ble_eq_true rfl) ?_
  intro p e s m args below meth c A C hE hA hH ls hl
  have hl : lv_has ls 2 [(0, .ref (ad 0)), (1, .int x1)] := hl
  have C : Cx p s m args meth c cX6_isOne 2 (some .boolean) RX6 := C
  obtain ⟨hx, hb, hml, hown, hT, hr, hlk⟩ := id C
  rw [fX6_isOne] at hf
  refine lv_iload_n hx hb dX6_isOne_0 rfl (lv_at hl 1 rfl) ?_
  refine lv_iconst (v := 0) hx hb dX6_isOne_1 (by decide) ?_
  refine lv_aload_n hx hb dX6_isOne_2 rfl (lv_at hl 0 rfl) ?_
  refine gf_RX6_7 C hE hH 0 rfl rfl dX6_isOne_3 ?_
  refine lv_bipush (v := 6) hx hb dX6_isOne_6 (by decide) ?_
  obtain ⟨hi_4, hf⟩ := grd_inv hf
  refine xiald C hE hH 1 rfl hi_4 dX6_isOne_8 ?_
  refine lv_iconst (v := 1) hx hb dX6_isOne_9 (by decide) ?_
  refine lv_isub hx hb dX6_isOne_10 ?_
  obtain ⟨r_5, hc_6, hf⟩ := bind_inv hf
  refine aftPI (runS C hE hA hH [] rfl rfl (kX6_in l g ad _ x1 (0 : Int32) ((G 1 (6 : Int32).toNatClampNeg) - (1 : Int32)) r_5  hc_6) tw_5_2 tw_5_3 tw_1_5 tw_5_4 hdX6_in rfl rfl ⟨Nat.le_of_ble_eq_true rfl, Nat.le_of_ble_eq_true rfl⟩ rfl hl.1 (rest := []) rfl (Nat.le_of_ble_eq_true rfl) dX6_isOne_11 ⟨Nat.zero_le _, Nat.zero_le _⟩) ?_
  obtain ⟨hz, hf⟩ := grd_inv hf
  have h1 := Option.some.inj hf
  subst h1
  exact retPI C (isB_nar hz) dX6_isOne_14
def fX6_isKind (x1 : Int32) : Option (Int32) := (fX6_in x1 (0 : Int32) (5 : Int32)).bind (fun (r_3 : Int32) => grd (isB r_3) (some r_3))
def rmX6_isKind : Room := { frames := 1, cells := 0, slots := 0, locals := 22 }
theorem hdX6_isKind : yX6_isKind.cls = yX6_isKind.cls ∧ yX6_isKind.cls ≠ "java/lang/invoke/MethodHandle" ∧ yX6_isKind.cls ≠ "java/lang/invoke/VarHandle" ∧ (parseMethodDescriptor yX6_isKind.desc).map (fun d => d.parameters.length) = some 1 := by decide +kernel
set_option maxHeartbeats 4000000 in
set_option maxRecDepth 100000 in
theorem kX6_isKind (l : Launch) (g : Gl) (ad : Nat → Nat) (sz : Nat)  (x1 : Int32) (r : Int32)  (hf : fX6_isKind x1 = some r) : MetPI l yX6_isKind (Cond.code yX6_isKind cX6_isKind 1 (some .boolean) :: wsL_law) rmX6_isKind [.int x1] g ([]) sz r := by
  refine openPI (by decide +kernel) (Nat.le_of_ble_eq_true rfl) ?_
  intro p e s m args below meth c A C hE hA hH ls hl
  have hl : lv_has ls 1 [(0, .int x1)] := hl
  have C : Cx p s m args meth c cX6_isKind 1 (some .boolean) RX6 := C
  obtain ⟨hx, hb, hml, hown, hT, hr, hlk⟩ := id C
  rw [fX6_isKind] at hf
  refine lv_iload_n hx hb dX6_isKind_0 rfl (lv_at hl 0 rfl) ?_
  refine lv_iconst (v := 0) hx hb dX6_isKind_1 (by decide) ?_
  refine lv_iconst (v := 5) hx hb dX6_isKind_2 (by decide) ?_
  obtain ⟨r_3, hc_4, hf⟩ := bind_inv hf
  refine aftPI (runS C hE hA hH [] rfl rfl (kX6_in l g ad _ x1 (0 : Int32) (5 : Int32) r_3  hc_4) tw_5_2 tw_5_3 tw_1_5 tw_5_4 hdX6_in rfl rfl ⟨Nat.le_of_ble_eq_true rfl, Nat.le_of_ble_eq_true rfl⟩ rfl hl.1 (rest := []) rfl (Nat.le_of_ble_eq_true rfl) dX6_isKind_3 ⟨Nat.zero_le _, Nat.zero_le _⟩) ?_
  obtain ⟨hz, hf⟩ := grd_inv hf
  have h1 := Option.some.inj hf
  subst h1
  exact retPI C (isB_nar hz) dX6_isKind_6
def fX6_bits_c20  (y1 : Int32) : Option (Int32) := some y1
def fX6_bits_c4  : Nat → Int32 → Int32 → Option (Int32)
  | 0, _, _ => none
  | n + 1, y1, y2 => (if y2 = 0 then fX6_bits_c20  y1 else letb (y1 + (1 : Int32)) (fun v_5 : Int32 => letb (y2 &&& (y2 - (1 : Int32))) (fun v_6 : Int32 => fX6_bits_c4 n v_5 v_6)))
def fX6_bits (x1 : Int32) : Option (Int32) := fX6_bits_c4  FU (0 : Int32) x1
def rmX6_bits : Room := { frames := 0, cells := 0, slots := 0, locals := 0 }
theorem hdX6_bits : yX6_bits.cls = yX6_bits.cls ∧ yX6_bits.cls ≠ "java/lang/invoke/MethodHandle" ∧ yX6_bits.cls ≠ "java/lang/invoke/VarHandle" ∧ (parseMethodDescriptor yX6_bits.desc).map (fun d => d.parameters.length) = some 1 := by decide +kernel
set_option maxHeartbeats 4000000 in
set_option maxRecDepth 100000 in
theorem kX6_bits (l : Launch) (g : Gl) (ad : Nat → Nat) (sz : Nat)  (x1 : Int32) (r : Int32)  (hf : fX6_bits x1 = some r) : MetPI l yX6_bits (Cond.code yX6_bits cX6_bits 3 (some .int) :: wsL_law) rmX6_bits [.int x1] g ([]) sz r := by
  refine openPI (by decide +kernel) (Nat.le_of_ble_eq_true rfl) ?_
  intro p e s m args below meth c A C hE hA hH ls hl
  have hl : lv_has ls 3 [(0, .int x1)] := hl
  have C : Cx p s m args meth c cX6_bits 3 (some .int) RX6 := C
  obtain ⟨hx, hb, hml, hown, hT, hr, hlk⟩ := id C
  rw [fX6_bits] at hf
  have lp_4 : ∀ (n_4 : Nat) (y1 : Int32) (y2 : Int32) (ls : Array Slot), fX6_bits_c4  n_4 y1 y2 = some r → lv_has ls 3 [(1, .int y1), (2, .int y2)] → W p l e rmX6_bits s m args below meth c s.heap [] 0 0 (QPI below args s r) (F0 m 4 ls []) := by
    intro n_4
    induction n_4 with
    | zero =>
      intro y1 y2  ls hf hl
      rw [fX6_bits_c4] at hf
      cases hf
    | succ n_4 ih_4 =>
      intro y1 y2  ls hf hl
      rw [fX6_bits_c4] at hf
      have j_20 : ∀ (y1 : Int32) (ls : Array Slot), fX6_bits_c20  y1 = some r → lv_has ls 3 [(1, .int y1)] → W p l e rmX6_bits s m args below meth c s.heap [] 0 0 (QPI below args s r) (F0 m 20 ls []) := by
        intro y1  ls hf hl
        rw [fX6_bits_c20] at hf
        refine lv_iload_n hx hb dX6_bits_20 rfl (lv_at hl 0 rfl) ?_
        have h1 := Option.some.inj hf
        subst h1
        exact retPI C rfl dX6_bits_21
      refine lv_iload_n hx hb dX6_bits_4 rfl (lv_at hl 1 rfl) ?_
      refine lv_if_eq (tgt := 20) hx hb dX6_bits_5 (by decide) (fun c_4 => ?_) (fun c_4 => ?_)
      · have hf := if_p hf c_4
        exact j_20 y1 ls hf (lv_sub hl [0] rfl)
      · have hf := if_n hf c_4
        obtain ⟨v_5, ev_5⟩ : ∃ z : Int32, z = y1 + (1 : Int32) := ⟨_, rfl⟩
        have hf := letb_at hf v_5 ev_5
        refine lv_iinc (v := v_5) (lv' := [(1, .int v_5), (2, .int y2)]) hx hb dX6_bits_8 hl (k := 0) rfl (by rw [ev_5]; rfl) (by decide) rfl (fun ls hl => ?_)
        refine lv_iload_n hx hb dX6_bits_11 rfl (lv_at hl 1 rfl) ?_
        refine lv_iload_n hx hb dX6_bits_12 rfl (lv_at hl 1 rfl) ?_
        refine lv_iconst (v := 1) hx hb dX6_bits_13 (by decide) ?_
        refine lv_isub hx hb dX6_bits_14 ?_
        refine lv_iand hx hb dX6_bits_15 ?_
        refine lv_topi (fun v_6 ev_6 => ?_)
        have hf := letb_at hf v_6 ev_6
        refine lv_istore_n (lv' := [(2, .int v_6), (1, .int v_5)]) hx hb dX6_bits_16 rfl hl (by decide) rfl (fun ls hl => ?_)
        refine lv_goto (tgt := 4) hx hb dX6_bits_17 (by decide) ?_
        exact ih_4 v_5 v_6 ls hf (lv_sub hl [1, 0] rfl)
  refine lv_iconst (v := 0) hx hb dX6_bits_0 (by decide) ?_
  refine lv_istore_n (lv' := [(1, .int (0 : Int32)), (0, .int x1)]) hx hb dX6_bits_1 rfl hl (by decide) rfl (fun ls hl => ?_)
  refine lv_iload_n hx hb dX6_bits_2 rfl (lv_at hl 1 rfl) ?_
  refine lv_istore_n (lv' := [(2, .int x1), (1, .int (0 : Int32)), (0, .int x1)]) hx hb dX6_bits_3 rfl hl (by decide) rfl (fun ls hl => ?_)
  exact lp_4 _ (0 : Int32) x1 ls hf (lv_sub hl [1, 0] rfl)
def fX6_sea_c38  (z0 : Int32) (G : M2) (J : J2) : Option (Int32 × M2) := some (z0, G)
def fX6_sea_c32  (G : M2) (J : J2) : Option (Int32 × M2) := bind2 (fX6_finds (-1000000001 : Int32) G J) (fun (r_13 : Int32) (G_14 : M2) => fX6_sea_c38  r_13 G_14 J)
def fX6_sea (x1 : Int32) (x2 : Int32) (G : M2) (J : J2) : Option (Int32 × M2) := (fX6_in x1 (0 : Int32) (27 : Int32)).bind (fun (r_16 : Int32) => (if r_16 = 0 then fX6_sea_c32  G J else (fX6_in x2 (0 : Int32) (12 : Int32)).bind (fun (r_19 : Int32) => (if r_19 = 0 then fX6_sea_c32  G J else bind2 (fX6_becomes ((7 : Int32) + x1) x2 G J) (fun (r_22 : Int32) (G_23 : M2) => fX6_sea_c38  r_22 G_23 J)))))
def rmX6_sea : Room := { frames := 1, cells := 0, slots := 0, locals := 23 }
theorem hdX6_sea : yX6_sea.cls = yX6_sea.cls ∧ yX6_sea.cls ≠ "java/lang/invoke/MethodHandle" ∧ yX6_sea.cls ≠ "java/lang/invoke/VarHandle" ∧ (parseMethodDescriptor yX6_sea.desc).map (fun d => d.parameters.length) = some 2 := by decide +kernel
set_option maxHeartbeats 4000000 in
set_option maxRecDepth 100000 in
theorem kX6_sea (l : Launch) (g : Gl) (ad : Nat → Nat) (sz : Nat) (G : M2) (J : J2) (x1 : Int32) (x2 : Int32) (r : Int32) (G' : M2)  (hf : fX6_sea x1 x2 G J = some (r, G')) : MetI l yX6_sea (Cond.code yX6_sea cX6_sea 3 (some .int) :: wsL_law) rmX6_sea [.ref (ad 0), .int x1, .int x2] g (wM g ad G J) sz r (wM g ad G' J) := by
  refine openI (by decide +kernel) (Nat.le_of_ble_eq_true rfl) ?_
  intro p e s m args below meth c A C hE hA hH ls hl
  have hl : lv_has ls 3 [(0, .ref (ad 0)), (1, .int x1), (2, .int x2)] := hl
  have C : Cx p s m args meth c cX6_sea 3 (some .int) RX6 := C
  obtain ⟨hx, hb, hml, hown, hT, hr, hlk⟩ := id C
  rw [fX6_sea] at hf
  have j_38 : ∀ (z0 : Int32) (G : M2) (H : Heap) (locs : List Loc) (ls : Array Slot), fX6_sea_c38  z0 G J = some (r, G') → Hp g A s H locs (wM g ad G J) → lv_has ls 3 [] → W p l e rmX6_sea s m args below meth c H locs 0 0 (QI g A below args s r (wM g ad G' J)) (F0 m 38 ls [.int z0]) := by
    intro z0 G H locs  ls hf hH hl
    rw [fX6_sea_c38] at hf
    have hf := Option.some.inj hf
    obtain ⟨h1, h2⟩ := Prod.mk.inj hf
    subst h1
    subst h2
    exact retI C hH rfl dX6_sea_38
  have j_32 : ∀ (G : M2) (H : Heap) (locs : List Loc) (ls : Array Slot), fX6_sea_c32  G J = some (r, G') → Hp g A s H locs (wM g ad G J) → lv_has ls 3 [(0, .ref (ad 0))] → W p l e rmX6_sea s m args below meth c H locs 0 0 (QI g A below args s r (wM g ad G' J)) (F0 m 32 ls []) := by
    intro G H locs  ls hf hH hl
    rw [fX6_sea_c32] at hf
    refine lv_aload_n hx hb dX6_sea_32 rfl (lv_at hl 0 rfl) ?_
    refine lv_ldc hx hb hown (hT _ tw_5_1) dX6_sea_33 ?_
    obtain ⟨r_13, G_14, hc_15, hf⟩ := bind2_inv hf
    refine aftI (runV C hE hA hH [0, 1, 2, 3, 4, 5, 6, 7, 8, 9, 10, 11] nC_M_M_0_11 (sC_M_M_0_11 g ad G J) (kX6_finds l g ad _ G J (-1000000001 : Int32) r_13 G_14  hc_15) tw_5_9 tw_5_10 tw_5_11 tw_1_5 tw_5_12 hdX6_finds 0 rfl rfl rfl rfl ⟨Nat.le_of_ble_eq_true rfl, Nat.le_of_ble_eq_true rfl⟩ rfl hl.1 (rest := []) rfl (Nat.le_of_ble_eq_true rfl) dX6_sea_35 ⟨Nat.zero_le _, Nat.zero_le _⟩) hA hH [0, 1, 2, 3, 4, 5, 6, 7, 8, 9, 10, 11] [] (sC_M_M_0_11 g ad G J) (sR_M_M_0_11 g ad G J) nR_M_M_0_11 dj_M_M_0_11 [0, 1, 2, 3, 4, 5, 6, 7, 8, 9, 10, 11] nP_M_M_0_11 (sP_M_M_0_11 g ad G J G_14 J) (fun H locs hH => ?_)
    exact j_38 r_13 G_14 _ _ ls hf hH (lv_sub hl [] rfl)
  refine lv_iload_n hx hb dX6_sea_0 rfl (lv_at hl 1 rfl) ?_
  refine lv_iconst (v := 0) hx hb dX6_sea_1 (by decide) ?_
  refine lv_bipush (v := 27) hx hb dX6_sea_2 (by decide) ?_
  obtain ⟨r_16, hc_17, hf⟩ := bind_inv hf
  refine aftPI (runS C hE hA hH [] rfl rfl (kX6_in l g ad _ x1 (0 : Int32) (27 : Int32) r_16  hc_17) tw_5_2 tw_5_3 tw_1_5 tw_5_4 hdX6_in rfl rfl ⟨Nat.le_of_ble_eq_true rfl, Nat.le_of_ble_eq_true rfl⟩ rfl hl.1 (rest := []) rfl (Nat.le_of_ble_eq_true rfl) dX6_sea_4 ⟨Nat.zero_le _, Nat.zero_le _⟩) ?_
  refine lv_if_eq (tgt := 32) hx hb dX6_sea_7 (by decide) (fun c_18 => ?_) (fun c_18 => ?_)
  · have hf := if_p hf c_18
    exact j_32 G _ _ ls hf hH (lv_sub hl [0] rfl)
  · have hf := if_n hf c_18
    refine lv_iload_n hx hb dX6_sea_10 rfl (lv_at hl 2 rfl) ?_
    refine lv_iconst (v := 0) hx hb dX6_sea_11 (by decide) ?_
    refine lv_bipush (v := 12) hx hb dX6_sea_12 (by decide) ?_
    obtain ⟨r_19, hc_20, hf⟩ := bind_inv hf
    refine aftPI (runS C hE hA hH [] rfl rfl (kX6_in l g ad _ x2 (0 : Int32) (12 : Int32) r_19  hc_20) tw_5_2 tw_5_3 tw_1_5 tw_5_4 hdX6_in rfl rfl ⟨Nat.le_of_ble_eq_true rfl, Nat.le_of_ble_eq_true rfl⟩ rfl hl.1 (rest := []) rfl (Nat.le_of_ble_eq_true rfl) dX6_sea_14 ⟨Nat.zero_le _, Nat.zero_le _⟩) ?_
    refine lv_if_eq (tgt := 32) hx hb dX6_sea_17 (by decide) (fun c_21 => ?_) (fun c_21 => ?_)
    · have hf := if_p hf c_21
      exact j_32 G _ _ ls hf hH (lv_sub hl [0] rfl)
    · have hf := if_n hf c_21
      refine lv_aload_n hx hb dX6_sea_20 rfl (lv_at hl 0 rfl) ?_
      refine lv_bipush (v := 7) hx hb dX6_sea_21 (by decide) ?_
      refine lv_iload_n hx hb dX6_sea_23 rfl (lv_at hl 1 rfl) ?_
      refine lv_iadd hx hb dX6_sea_24 ?_
      refine lv_iload_n hx hb dX6_sea_25 rfl (lv_at hl 2 rfl) ?_
      obtain ⟨r_22, G_23, hc_24, hf⟩ := bind2_inv hf
      refine aftI (runV C hE hA hH [0, 1, 2, 3, 4, 5, 6, 7, 8, 9, 10, 11] nC_M_M_0_11 (sC_M_M_0_11 g ad G J) (kX6_becomes l g ad _ G J ((7 : Int32) + x1) x2 r_22 G_23  hc_24) tw_5_5 tw_5_6 tw_5_7 tw_1_5 tw_5_8 hdX6_becomes 0 rfl rfl rfl rfl ⟨Nat.le_of_ble_eq_true rfl, Nat.le_of_ble_eq_true rfl⟩ rfl hl.1 (rest := []) rfl (Nat.le_of_ble_eq_true rfl) dX6_sea_26 ⟨Nat.zero_le _, Nat.zero_le _⟩) hA hH [0, 1, 2, 3, 4, 5, 6, 7, 8, 9, 10, 11] [] (sC_M_M_0_11 g ad G J) (sR_M_M_0_11 g ad G J) nR_M_M_0_11 dj_M_M_0_11 [0, 1, 2, 3, 4, 5, 6, 7, 8, 9, 10, 11] nP_M_M_0_11 (sP_M_M_0_11 g ad G J G_23 J) (fun H locs hH => ?_)
      refine lv_goto (tgt := 38) hx hb dX6_sea_29 (by decide) ?_
      exact j_38 r_22 G_23 _ _ ls hf hH (lv_sub hl [] rfl)
def fX6_seconds_c31  (z0 : Int32) (G : M2) (J : J2) : Option (Int32) := some z0
def fX6_seconds (x1 : Int32) (G : M2) (J : J2) : Option (Int32) := grd (inb ((7 : Int32) + (x1 - x1 / (28 : Int32) * (28 : Int32))) 75) (grd (inb (1 : Int32) 75) (letb ((G 1 ((7 : Int32) + (x1 - x1 / (28 : Int32) * (28 : Int32))).toNatClampNeg) - (G 1 (1 : Int32).toNatClampNeg)) (fun v_7 : Int32 => (if 0 ≤ v_7 then fX6_seconds_c31  (v_7 + (1 : Int32)) G J else fX6_seconds_c31  (0 : Int32) G J))))
def rmX6_seconds : Room := { frames := 0, cells := 0, slots := 0, locals := 0 }
theorem hdX6_seconds : yX6_seconds.cls = yX6_seconds.cls ∧ yX6_seconds.cls ≠ "java/lang/invoke/MethodHandle" ∧ yX6_seconds.cls ≠ "java/lang/invoke/VarHandle" ∧ (parseMethodDescriptor yX6_seconds.desc).map (fun d => d.parameters.length) = some 1 := by decide +kernel
set_option maxHeartbeats 4000000 in
set_option maxRecDepth 100000 in
theorem kX6_seconds (l : Launch) (g : Gl) (ad : Nat → Nat) (sz : Nat) (G : M2) (J : J2) (x1 : Int32) (r : Int32)  (hf : fX6_seconds x1 G J = some r) : MetPI l yX6_seconds (Cond.code yX6_seconds cX6_seconds 3 (some .int) :: wsL_law) rmX6_seconds [.ref (ad 0), .int x1] g (wM g ad G J) sz r := by
  refine openPI (by decide +kernel) (Nat.le_of_ble_eq_true rfl) ?_
  intro p e s m args below meth c A C hE hA hH ls hl
  have hl : lv_has ls 3 [(0, .ref (ad 0)), (1, .int x1)] := hl
  have C : Cx p s m args meth c cX6_seconds 3 (some .int) RX6 := C
  obtain ⟨hx, hb, hml, hown, hT, hr, hlk⟩ := id C
  rw [fX6_seconds] at hf
  have j_31 : ∀ (z0 : Int32) (ls : Array Slot), fX6_seconds_c31  z0 G J = some r → lv_has ls 3 [] → W p l e rmX6_seconds s m args below meth c s.heap [] 0 0 (QPI below args s r) (F0 m 31 ls [.int z0]) := by
    intro z0  ls hf hl
    rw [fX6_seconds_c31] at hf
    have h1 := Option.some.inj hf
    subst h1
    exact retPI C rfl dX6_seconds_31
  refine lv_aload_n hx hb dX6_seconds_0 rfl (lv_at hl 0 rfl) ?_
  refine gf_RX6_7 C hE hH 0 rfl rfl dX6_seconds_1 ?_
  refine lv_bipush (v := 7) hx hb dX6_seconds_4 (by decide) ?_
  refine lv_iload_n hx hb dX6_seconds_6 rfl (lv_at hl 1 rfl) ?_
  refine lv_bipush (v := 28) hx hb dX6_seconds_7 (by decide) ?_
  refine lv_irem hx hb dX6_seconds_9 (by decide) ?_
  refine lv_iadd hx hb dX6_seconds_10 ?_
  obtain ⟨hi_5, hf⟩ := grd_inv hf
  refine xiald C hE hH 1 rfl hi_5 dX6_seconds_11 ?_
  refine lv_aload_n hx hb dX6_seconds_12 rfl (lv_at hl 0 rfl) ?_
  refine gf_RX6_7 C hE hH 0 rfl rfl dX6_seconds_13 ?_
  refine lv_iconst (v := 1) hx hb dX6_seconds_16 (by decide) ?_
  obtain ⟨hi_6, hf⟩ := grd_inv hf
  refine xiald C hE hH 1 rfl hi_6 dX6_seconds_17 ?_
  refine lv_isub hx hb dX6_seconds_18 ?_
  refine lv_topi (fun v_7 ev_7 => ?_)
  have hf := letb_at hf v_7 ev_7
  refine lv_istore_n (lv' := [(2, .int v_7), (0, .ref (ad 0)), (1, .int x1)]) hx hb dX6_seconds_19 rfl hl (by decide) rfl (fun ls hl => ?_)
  refine lv_iload_n hx hb dX6_seconds_20 rfl (lv_at hl 0 rfl) ?_
  refine lv_if_ge (tgt := 28) hx hb dX6_seconds_21 (by decide) (fun c_8 => ?_) (fun c_8 => ?_)
  · have hf := if_p hf c_8
    refine lv_iload_n hx hb dX6_seconds_28 rfl (lv_at hl 0 rfl) ?_
    refine lv_iconst (v := 1) hx hb dX6_seconds_29 (by decide) ?_
    refine lv_iadd hx hb dX6_seconds_30 ?_
    exact j_31 (v_7 + (1 : Int32)) ls hf (lv_sub hl [] rfl)
  · have hf := if_n hf c_8
    refine lv_iconst (v := 0) hx hb dX6_seconds_24 (by decide) ?_
    refine lv_goto (tgt := 31) hx hb dX6_seconds_25 (by decide) ?_
    exact j_31 (0 : Int32) ls hf (lv_sub hl [] rfl)
def fX6_day_c20  (G : M2) (J : J2) : Option (Int32 × M2) := bind2 (fX6_finds (-1000000001 : Int32) G J) (fun (r_18 : Int32) (G_19 : M2) => some (r_18, G_19))
def fX6_day_c72  (z0 : Int32) (G : M2) (J : J2) : Option (Int32 × M2) := some (z0, G)
def fX6_day (x1 : Int32) (x2 : Int32) (G : M2) (J : J2) : Option (Int32 × M2) := (fX6_in x1 (0 : Int32) (9999 : Int32)).bind (fun (r_21 : Int32) => (if r_21 = 0 then fX6_day_c20  G J else (fX6_in x2 (0 : Int32) (2 : Int32)).bind (fun (r_24 : Int32) => (if r_24 = 0 then fX6_day_c20  G J else (if x2 = 0 then grd (inb ((7 : Int32) + (x1 - x1 / (28 : Int32) * (28 : Int32))) 75) (fX6_day_c72  (G 1 ((7 : Int32) + (x1 - x1 / (28 : Int32) * (28 : Int32))).toNatClampNeg) G J) else (if x2 = (1 : Int32) then (fX6_seconds x1 G J).bind (fun (r_31 : Int32) => (if r_31 ≤ 0 then fX6_day_c72  (0 : Int32) G J else fX6_day_c72  (1 : Int32) G J)) else (fX6_seconds x1 G J).bind (fun (r_29 : Int32) => fX6_day_c72  r_29 G J)))))))
def rmX6_day : Room := { frames := 1, cells := 0, slots := 0, locals := 22 }
theorem hdX6_day : yX6_day.cls = yX6_day.cls ∧ yX6_day.cls ≠ "java/lang/invoke/MethodHandle" ∧ yX6_day.cls ≠ "java/lang/invoke/VarHandle" ∧ (parseMethodDescriptor yX6_day.desc).map (fun d => d.parameters.length) = some 2 := by decide +kernel
set_option maxHeartbeats 4000000 in
set_option maxRecDepth 100000 in
theorem kX6_day (l : Launch) (g : Gl) (ad : Nat → Nat) (sz : Nat) (G : M2) (J : J2) (x1 : Int32) (x2 : Int32) (r : Int32) (G' : M2)  (hf : fX6_day x1 x2 G J = some (r, G')) : MetI l yX6_day (Cond.code yX6_day cX6_day 3 (some .int) :: wsL_law) rmX6_day [.ref (ad 0), .int x1, .int x2] g (wM g ad G J) sz r (wM g ad G' J) := by
  refine openI (by decide +kernel) (Nat.le_of_ble_eq_true rfl) ?_
  intro p e s m args below meth c A C hE hA hH ls hl
  have hl : lv_has ls 3 [(0, .ref (ad 0)), (1, .int x1), (2, .int x2)] := hl
  have C : Cx p s m args meth c cX6_day 3 (some .int) RX6 := C
  obtain ⟨hx, hb, hml, hown, hT, hr, hlk⟩ := id C
  rw [fX6_day] at hf
  have j_20 : ∀ (G : M2) (H : Heap) (locs : List Loc) (ls : Array Slot), fX6_day_c20  G J = some (r, G') → Hp g A s H locs (wM g ad G J) → lv_has ls 3 [(0, .ref (ad 0))] → W p l e rmX6_day s m args below meth c H locs 0 0 (QI g A below args s r (wM g ad G' J)) (F0 m 20 ls []) := by
    intro G H locs  ls hf hH hl
    rw [fX6_day_c20] at hf
    refine lv_aload_n hx hb dX6_day_20 rfl (lv_at hl 0 rfl) ?_
    refine lv_ldc hx hb hown (hT _ tw_5_1) dX6_day_21 ?_
    obtain ⟨r_18, G_19, hc_20, hf⟩ := bind2_inv hf
    refine aftI (runV C hE hA hH [0, 1, 2, 3, 4, 5, 6, 7, 8, 9, 10, 11] nC_M_M_0_11 (sC_M_M_0_11 g ad G J) (kX6_finds l g ad _ G J (-1000000001 : Int32) r_18 G_19  hc_20) tw_5_9 tw_5_10 tw_5_11 tw_1_5 tw_5_12 hdX6_finds 0 rfl rfl rfl rfl ⟨Nat.le_of_ble_eq_true rfl, Nat.le_of_ble_eq_true rfl⟩ rfl hl.1 (rest := []) rfl (Nat.le_of_ble_eq_true rfl) dX6_day_23 ⟨Nat.zero_le _, Nat.zero_le _⟩) hA hH [0, 1, 2, 3, 4, 5, 6, 7, 8, 9, 10, 11] [] (sC_M_M_0_11 g ad G J) (sR_M_M_0_11 g ad G J) nR_M_M_0_11 dj_M_M_0_11 [0, 1, 2, 3, 4, 5, 6, 7, 8, 9, 10, 11] nP_M_M_0_11 (sP_M_M_0_11 g ad G J G_19 J) (fun H locs hH => ?_)
    have hf := Option.some.inj hf
    obtain ⟨h1, h2⟩ := Prod.mk.inj hf
    subst h1
    subst h2
    exact retI C hH rfl dX6_day_26
  have j_72 : ∀ (z0 : Int32) (G : M2) (H : Heap) (locs : List Loc) (ls : Array Slot), fX6_day_c72  z0 G J = some (r, G') → Hp g A s H locs (wM g ad G J) → lv_has ls 3 [] → W p l e rmX6_day s m args below meth c H locs 0 0 (QI g A below args s r (wM g ad G' J)) (F0 m 72 ls [.int z0]) := by
    intro z0 G H locs  ls hf hH hl
    rw [fX6_day_c72] at hf
    have hf := Option.some.inj hf
    obtain ⟨h1, h2⟩ := Prod.mk.inj hf
    subst h1
    subst h2
    exact retI C hH rfl dX6_day_72
  refine lv_iload_n hx hb dX6_day_0 rfl (lv_at hl 1 rfl) ?_
  refine lv_iconst (v := 0) hx hb dX6_day_1 (by decide) ?_
  refine lv_sipush (v := 9999) hx hb dX6_day_2 (by decide) ?_
  obtain ⟨r_21, hc_22, hf⟩ := bind_inv hf
  refine aftPI (runS C hE hA hH [] rfl rfl (kX6_in l g ad _ x1 (0 : Int32) (9999 : Int32) r_21  hc_22) tw_5_2 tw_5_3 tw_1_5 tw_5_4 hdX6_in rfl rfl ⟨Nat.le_of_ble_eq_true rfl, Nat.le_of_ble_eq_true rfl⟩ rfl hl.1 (rest := []) rfl (Nat.le_of_ble_eq_true rfl) dX6_day_5 ⟨Nat.zero_le _, Nat.zero_le _⟩) ?_
  refine lv_if_eq (tgt := 20) hx hb dX6_day_8 (by decide) (fun c_23 => ?_) (fun c_23 => ?_)
  · have hf := if_p hf c_23
    exact j_20 G _ _ ls hf hH (lv_sub hl [0] rfl)
  · have hf := if_n hf c_23
    refine lv_iload_n hx hb dX6_day_11 rfl (lv_at hl 2 rfl) ?_
    refine lv_iconst (v := 0) hx hb dX6_day_12 (by decide) ?_
    refine lv_iconst (v := 2) hx hb dX6_day_13 (by decide) ?_
    obtain ⟨r_24, hc_25, hf⟩ := bind_inv hf
    refine aftPI (runS C hE hA hH [] rfl rfl (kX6_in l g ad _ x2 (0 : Int32) (2 : Int32) r_24  hc_25) tw_5_2 tw_5_3 tw_1_5 tw_5_4 hdX6_in rfl rfl ⟨Nat.le_of_ble_eq_true rfl, Nat.le_of_ble_eq_true rfl⟩ rfl hl.1 (rest := []) rfl (Nat.le_of_ble_eq_true rfl) dX6_day_14 ⟨Nat.zero_le _, Nat.zero_le _⟩) ?_
    refine lv_if_ne (tgt := 27) hx hb dX6_day_17 (by decide) (fun c_26 => ?_) (fun c_26 => ?_)
    · have hf := if_n hf c_26
      refine lv_iload_n hx hb dX6_day_27 rfl (lv_at hl 2 rfl) ?_
      refine lv_if_ne (tgt := 46) hx hb dX6_day_28 (by decide) (fun c_27 => ?_) (fun c_27 => ?_)
      · have hf := if_n hf c_27
        refine lv_iload_n hx hb dX6_day_46 rfl (lv_at hl 2 rfl) ?_
        refine lv_iconst (v := 1) hx hb dX6_day_47 (by decide) ?_
        refine lv_icmp_ne (tgt := 67) hx hb dX6_day_48 (by decide) (fun c_28 => ?_) (fun c_28 => ?_)
        · have hf := if_n hf c_28
          refine lv_aload_n hx hb dX6_day_67 rfl (lv_at hl 0 rfl) ?_
          refine lv_iload_n hx hb dX6_day_68 rfl (lv_at hl 1 rfl) ?_
          obtain ⟨r_29, hc_30, hf⟩ := bind_inv hf
          refine aftPI (runV C hE hA hH [0, 1, 2, 3, 4, 5, 6, 7, 8, 9, 10, 11] nC_M_M_0_11 (sC_M_M_0_11 g ad G J) (kX6_seconds l g ad _ G J x1 r_29  hc_30) tw_6_14 tw_6_15 tw_6_16 tw_1_5 tw_6_17 hdX6_seconds 0 rfl rfl rfl rfl ⟨Nat.le_of_ble_eq_true rfl, Nat.le_of_ble_eq_true rfl⟩ rfl hl.1 (rest := []) rfl (Nat.le_of_ble_eq_true rfl) dX6_day_69 ⟨Nat.zero_le _, Nat.zero_le _⟩) ?_
          exact j_72 r_29 G _ _ ls hf hH (lv_sub hl [] rfl)
        · have hf := if_p hf c_28
          refine lv_aload_n hx hb dX6_day_51 rfl (lv_at hl 0 rfl) ?_
          refine lv_iload_n hx hb dX6_day_52 rfl (lv_at hl 1 rfl) ?_
          obtain ⟨r_31, hc_32, hf⟩ := bind_inv hf
          refine aftPI (runV C hE hA hH [0, 1, 2, 3, 4, 5, 6, 7, 8, 9, 10, 11] nC_M_M_0_11 (sC_M_M_0_11 g ad G J) (kX6_seconds l g ad _ G J x1 r_31  hc_32) tw_6_14 tw_6_15 tw_6_16 tw_1_5 tw_6_17 hdX6_seconds 0 rfl rfl rfl rfl ⟨Nat.le_of_ble_eq_true rfl, Nat.le_of_ble_eq_true rfl⟩ rfl hl.1 (rest := []) rfl (Nat.le_of_ble_eq_true rfl) dX6_day_53 ⟨Nat.zero_le _, Nat.zero_le _⟩) ?_
          refine lv_if_le (tgt := 63) hx hb dX6_day_56 (by decide) (fun c_33 => ?_) (fun c_33 => ?_)
          · have hf := if_p hf c_33
            refine lv_iconst (v := 0) hx hb dX6_day_63 (by decide) ?_
            refine lv_goto (tgt := 72) hx hb dX6_day_64 (by decide) ?_
            exact j_72 (0 : Int32) G _ _ ls hf hH (lv_sub hl [] rfl)
          · have hf := if_n hf c_33
            refine lv_iconst (v := 1) hx hb dX6_day_59 (by decide) ?_
            refine lv_goto (tgt := 72) hx hb dX6_day_60 (by decide) ?_
            exact j_72 (1 : Int32) G _ _ ls hf hH (lv_sub hl [] rfl)
      · have hf := if_p hf c_27
        refine lv_aload_n hx hb dX6_day_31 rfl (lv_at hl 0 rfl) ?_
        refine gf_RX6_7 C hE hH 0 rfl rfl dX6_day_32 ?_
        refine lv_bipush (v := 7) hx hb dX6_day_35 (by decide) ?_
        refine lv_iload_n hx hb dX6_day_37 rfl (lv_at hl 1 rfl) ?_
        refine lv_bipush (v := 28) hx hb dX6_day_38 (by decide) ?_
        refine lv_irem hx hb dX6_day_40 (by decide) ?_
        refine lv_iadd hx hb dX6_day_41 ?_
        obtain ⟨hi_34, hf⟩ := grd_inv hf
        refine xiald C hE hH 1 rfl hi_34 dX6_day_42 ?_
        refine lv_goto (tgt := 72) hx hb dX6_day_43 (by decide) ?_
        exact j_72 (G 1 ((7 : Int32) + (x1 - x1 / (28 : Int32) * (28 : Int32))).toNatClampNeg) G _ _ ls hf hH (lv_sub hl [] rfl)
    · have hf := if_p hf c_26
      exact j_20 G _ _ ls hf hH (lv_sub hl [0] rfl)
def fX6_light_c53  (z0 : Int32) (G : M2) (J : J2) : Option (Int32 × M2) := some (z0, G)
def fX6_light_c80  (z0 : Int32) (G : M2) (J : J2) : Option (Int32 × M2) := some (z0, G)
def fX6_light_c105  (z0 : Int32) (G : M2) (J : J2) : Option (Int32 × M2) := some (z0, G)
def fX6_light_c135  (z0 : Int32) (G : M2) (J : J2) : Option (Int32 × M2) := some (z0, G)
def fX6_light_c129  (G : M2) (J : J2) : Option (Int32 × M2) := bind2 (fX6_finds (-1000000001 : Int32) G J) (fun (r_41 : Int32) (G_42 : M2) => fX6_light_c135  r_41 G_42 J)
def fX6_light (x1 : Int32) (x2 : Int32) (G : M2) (J : J2) : Option (Int32 × M2) := (if x1 = 0 then (fX6_in x2 (0 : Int32) (12 : Int32)).bind (fun (r_45 : Int32) => (if r_45 = 0 then bind2 (fX6_finds (-1000000001 : Int32) G J) (fun (r_48 : Int32) (G_49 : M2) => fX6_light_c53  r_48 G_49 J) else bind2 (fX6_becomes (1 : Int32) x2 G J) (fun (r_51 : Int32) (G_52 : M2) => fX6_light_c53  r_51 G_52 J))) else (if x1 = 1 then (fX6_in x2 (0 : Int32) (9999 : Int32)).bind (fun (r_55 : Int32) => (if r_55 = 0 then bind2 (fX6_finds (-1000000001 : Int32) G J) (fun (r_58 : Int32) (G_59 : M2) => fX6_light_c80  r_58 G_59 J) else bind2 (fX6_becomes (2 : Int32) x2 G J) (fun (r_61 : Int32) (G_62 : M2) => fX6_light_c80  r_61 G_62 J))) else (if x1 = 2 then (fX6_in x2 (1 : Int32) (3 : Int32)).bind (fun (r_65 : Int32) => (if r_65 = 0 then bind2 (fX6_finds (-1000000001 : Int32) G J) (fun (r_68 : Int32) (G_69 : M2) => fX6_light_c105  r_68 G_69 J) else bind2 (fX6_becomes (3 : Int32) x2 G J) (fun (r_71 : Int32) (G_72 : M2) => fX6_light_c105  r_71 G_72 J))) else (if x1 = (3 : Int32) then (fX6_in x2 (0 : Int32) (2 : Int32)).bind (fun (r_75 : Int32) => (if r_75 = 0 then fX6_light_c129  G J else bind2 (fX6_becomes (4 : Int32) x2 G J) (fun (r_78 : Int32) (G_79 : M2) => fX6_light_c135  r_78 G_79 J))) else fX6_light_c129  G J))))
def rmX6_light : Room := { frames := 1, cells := 0, slots := 0, locals := 23 }
theorem hdX6_light : yX6_light.cls = yX6_light.cls ∧ yX6_light.cls ≠ "java/lang/invoke/MethodHandle" ∧ yX6_light.cls ≠ "java/lang/invoke/VarHandle" ∧ (parseMethodDescriptor yX6_light.desc).map (fun d => d.parameters.length) = some 2 := by decide +kernel
set_option maxHeartbeats 4000000 in
set_option maxRecDepth 100000 in
theorem kX6_light (l : Launch) (g : Gl) (ad : Nat → Nat) (sz : Nat) (G : M2) (J : J2) (x1 : Int32) (x2 : Int32) (r : Int32) (G' : M2)  (hf : fX6_light x1 x2 G J = some (r, G')) : MetI l yX6_light (Cond.code yX6_light cX6_light 3 (some .int) :: wsL_law) rmX6_light [.ref (ad 0), .int x1, .int x2] g (wM g ad G J) sz r (wM g ad G' J) := by
  refine openI (by decide +kernel) (Nat.le_of_ble_eq_true rfl) ?_
  intro p e s m args below meth c A C hE hA hH ls hl
  have hl : lv_has ls 3 [(0, .ref (ad 0)), (1, .int x1), (2, .int x2)] := hl
  have C : Cx p s m args meth c cX6_light 3 (some .int) RX6 := C
  obtain ⟨hx, hb, hml, hown, hT, hr, hlk⟩ := id C
  rw [fX6_light] at hf
  have j_53 : ∀ (z0 : Int32) (G : M2) (H : Heap) (locs : List Loc) (ls : Array Slot), fX6_light_c53  z0 G J = some (r, G') → Hp g A s H locs (wM g ad G J) → lv_has ls 3 [] → W p l e rmX6_light s m args below meth c H locs 0 0 (QI g A below args s r (wM g ad G' J)) (F0 m 53 ls [.int z0]) := by
    intro z0 G H locs  ls hf hH hl
    rw [fX6_light_c53] at hf
    have hf := Option.some.inj hf
    obtain ⟨h1, h2⟩ := Prod.mk.inj hf
    subst h1
    subst h2
    exact retI C hH rfl dX6_light_53
  have j_80 : ∀ (z0 : Int32) (G : M2) (H : Heap) (locs : List Loc) (ls : Array Slot), fX6_light_c80  z0 G J = some (r, G') → Hp g A s H locs (wM g ad G J) → lv_has ls 3 [] → W p l e rmX6_light s m args below meth c H locs 0 0 (QI g A below args s r (wM g ad G' J)) (F0 m 80 ls [.int z0]) := by
    intro z0 G H locs  ls hf hH hl
    rw [fX6_light_c80] at hf
    have hf := Option.some.inj hf
    obtain ⟨h1, h2⟩ := Prod.mk.inj hf
    subst h1
    subst h2
    exact retI C hH rfl dX6_light_80
  have j_105 : ∀ (z0 : Int32) (G : M2) (H : Heap) (locs : List Loc) (ls : Array Slot), fX6_light_c105  z0 G J = some (r, G') → Hp g A s H locs (wM g ad G J) → lv_has ls 3 [] → W p l e rmX6_light s m args below meth c H locs 0 0 (QI g A below args s r (wM g ad G' J)) (F0 m 105 ls [.int z0]) := by
    intro z0 G H locs  ls hf hH hl
    rw [fX6_light_c105] at hf
    have hf := Option.some.inj hf
    obtain ⟨h1, h2⟩ := Prod.mk.inj hf
    subst h1
    subst h2
    exact retI C hH rfl dX6_light_105
  have j_135 : ∀ (z0 : Int32) (G : M2) (H : Heap) (locs : List Loc) (ls : Array Slot), fX6_light_c135  z0 G J = some (r, G') → Hp g A s H locs (wM g ad G J) → lv_has ls 3 [] → W p l e rmX6_light s m args below meth c H locs 0 0 (QI g A below args s r (wM g ad G' J)) (F0 m 135 ls [.int z0]) := by
    intro z0 G H locs  ls hf hH hl
    rw [fX6_light_c135] at hf
    have hf := Option.some.inj hf
    obtain ⟨h1, h2⟩ := Prod.mk.inj hf
    subst h1
    subst h2
    exact retI C hH rfl dX6_light_135
  have j_129 : ∀ (G : M2) (H : Heap) (locs : List Loc) (ls : Array Slot), fX6_light_c129  G J = some (r, G') → Hp g A s H locs (wM g ad G J) → lv_has ls 3 [(0, .ref (ad 0))] → W p l e rmX6_light s m args below meth c H locs 0 0 (QI g A below args s r (wM g ad G' J)) (F0 m 129 ls []) := by
    intro G H locs  ls hf hH hl
    rw [fX6_light_c129] at hf
    refine lv_aload_n hx hb dX6_light_129 rfl (lv_at hl 0 rfl) ?_
    refine lv_ldc hx hb hown (hT _ tw_5_1) dX6_light_130 ?_
    obtain ⟨r_41, G_42, hc_43, hf⟩ := bind2_inv hf
    refine aftI (runV C hE hA hH [0, 1, 2, 3, 4, 5, 6, 7, 8, 9, 10, 11] nC_M_M_0_11 (sC_M_M_0_11 g ad G J) (kX6_finds l g ad _ G J (-1000000001 : Int32) r_41 G_42  hc_43) tw_5_9 tw_5_10 tw_5_11 tw_1_5 tw_5_12 hdX6_finds 0 rfl rfl rfl rfl ⟨Nat.le_of_ble_eq_true rfl, Nat.le_of_ble_eq_true rfl⟩ rfl hl.1 (rest := []) rfl (Nat.le_of_ble_eq_true rfl) dX6_light_132 ⟨Nat.zero_le _, Nat.zero_le _⟩) hA hH [0, 1, 2, 3, 4, 5, 6, 7, 8, 9, 10, 11] [] (sC_M_M_0_11 g ad G J) (sR_M_M_0_11 g ad G J) nR_M_M_0_11 dj_M_M_0_11 [0, 1, 2, 3, 4, 5, 6, 7, 8, 9, 10, 11] nP_M_M_0_11 (sP_M_M_0_11 g ad G J G_42 J) (fun H locs hH => ?_)
    exact j_135 r_41 G_42 _ _ ls hf hH (lv_sub hl [] rfl)
  refine lv_iload_n hx hb dX6_light_0 rfl (lv_at hl 1 rfl) ?_
  by_cases c_44 : x1 = 0
  · have hf := if_p hf c_44
    refine lv_tableIn (tgt := 28) hx hb dX6_light_1 (by rw [c_44]; decide) (by rw [c_44]; decide) (by rw [c_44]; rfl) (by decide) ?_
    refine lv_iload_n hx hb dX6_light_28 rfl (lv_at hl 2 rfl) ?_
    refine lv_iconst (v := 0) hx hb dX6_light_29 (by decide) ?_
    refine lv_bipush (v := 12) hx hb dX6_light_30 (by decide) ?_
    obtain ⟨r_45, hc_46, hf⟩ := bind_inv hf
    refine aftPI (runS C hE hA hH [] rfl rfl (kX6_in l g ad _ x2 (0 : Int32) (12 : Int32) r_45  hc_46) tw_5_2 tw_5_3 tw_1_5 tw_5_4 hdX6_in rfl rfl ⟨Nat.le_of_ble_eq_true rfl, Nat.le_of_ble_eq_true rfl⟩ rfl hl.1 (rest := []) rfl (Nat.le_of_ble_eq_true rfl) dX6_light_32 ⟨Nat.zero_le _, Nat.zero_le _⟩) ?_
    refine lv_if_eq (tgt := 47) hx hb dX6_light_35 (by decide) (fun c_47 => ?_) (fun c_47 => ?_)
    · have hf := if_p hf c_47
      refine lv_aload_n hx hb dX6_light_47 rfl (lv_at hl 0 rfl) ?_
      refine lv_ldc hx hb hown (hT _ tw_5_1) dX6_light_48 ?_
      obtain ⟨r_48, G_49, hc_50, hf⟩ := bind2_inv hf
      refine aftI (runV C hE hA hH [0, 1, 2, 3, 4, 5, 6, 7, 8, 9, 10, 11] nC_M_M_0_11 (sC_M_M_0_11 g ad G J) (kX6_finds l g ad _ G J (-1000000001 : Int32) r_48 G_49  hc_50) tw_5_9 tw_5_10 tw_5_11 tw_1_5 tw_5_12 hdX6_finds 0 rfl rfl rfl rfl ⟨Nat.le_of_ble_eq_true rfl, Nat.le_of_ble_eq_true rfl⟩ rfl hl.1 (rest := []) rfl (Nat.le_of_ble_eq_true rfl) dX6_light_50 ⟨Nat.zero_le _, Nat.zero_le _⟩) hA hH [0, 1, 2, 3, 4, 5, 6, 7, 8, 9, 10, 11] [] (sC_M_M_0_11 g ad G J) (sR_M_M_0_11 g ad G J) nR_M_M_0_11 dj_M_M_0_11 [0, 1, 2, 3, 4, 5, 6, 7, 8, 9, 10, 11] nP_M_M_0_11 (sP_M_M_0_11 g ad G J G_49 J) (fun H locs hH => ?_)
      exact j_53 r_48 G_49 _ _ ls hf hH (lv_sub hl [] rfl)
    · have hf := if_n hf c_47
      refine lv_aload_n hx hb dX6_light_38 rfl (lv_at hl 0 rfl) ?_
      refine lv_iconst (v := 1) hx hb dX6_light_39 (by decide) ?_
      refine lv_iload_n hx hb dX6_light_40 rfl (lv_at hl 2 rfl) ?_
      obtain ⟨r_51, G_52, hc_53, hf⟩ := bind2_inv hf
      refine aftI (runV C hE hA hH [0, 1, 2, 3, 4, 5, 6, 7, 8, 9, 10, 11] nC_M_M_0_11 (sC_M_M_0_11 g ad G J) (kX6_becomes l g ad _ G J (1 : Int32) x2 r_51 G_52  hc_53) tw_5_5 tw_5_6 tw_5_7 tw_1_5 tw_5_8 hdX6_becomes 0 rfl rfl rfl rfl ⟨Nat.le_of_ble_eq_true rfl, Nat.le_of_ble_eq_true rfl⟩ rfl hl.1 (rest := []) rfl (Nat.le_of_ble_eq_true rfl) dX6_light_41 ⟨Nat.zero_le _, Nat.zero_le _⟩) hA hH [0, 1, 2, 3, 4, 5, 6, 7, 8, 9, 10, 11] [] (sC_M_M_0_11 g ad G J) (sR_M_M_0_11 g ad G J) nR_M_M_0_11 dj_M_M_0_11 [0, 1, 2, 3, 4, 5, 6, 7, 8, 9, 10, 11] nP_M_M_0_11 (sP_M_M_0_11 g ad G J G_52 J) (fun H locs hH => ?_)
      refine lv_goto (tgt := 53) hx hb dX6_light_44 (by decide) ?_
      exact j_53 r_51 G_52 _ _ ls hf hH (lv_sub hl [] rfl)
  have hf := if_n hf c_44
  by_cases c_54 : x1 = 1
  · have hf := if_p hf c_54
    refine lv_tableIn (tgt := 54) hx hb dX6_light_1 (by rw [c_54]; decide) (by rw [c_54]; decide) (by rw [c_54]; rfl) (by decide) ?_
    refine lv_iload_n hx hb dX6_light_54 rfl (lv_at hl 2 rfl) ?_
    refine lv_iconst (v := 0) hx hb dX6_light_55 (by decide) ?_
    refine lv_sipush (v := 9999) hx hb dX6_light_56 (by decide) ?_
    obtain ⟨r_55, hc_56, hf⟩ := bind_inv hf
    refine aftPI (runS C hE hA hH [] rfl rfl (kX6_in l g ad _ x2 (0 : Int32) (9999 : Int32) r_55  hc_56) tw_5_2 tw_5_3 tw_1_5 tw_5_4 hdX6_in rfl rfl ⟨Nat.le_of_ble_eq_true rfl, Nat.le_of_ble_eq_true rfl⟩ rfl hl.1 (rest := []) rfl (Nat.le_of_ble_eq_true rfl) dX6_light_59 ⟨Nat.zero_le _, Nat.zero_le _⟩) ?_
    refine lv_if_eq (tgt := 74) hx hb dX6_light_62 (by decide) (fun c_57 => ?_) (fun c_57 => ?_)
    · have hf := if_p hf c_57
      refine lv_aload_n hx hb dX6_light_74 rfl (lv_at hl 0 rfl) ?_
      refine lv_ldc hx hb hown (hT _ tw_5_1) dX6_light_75 ?_
      obtain ⟨r_58, G_59, hc_60, hf⟩ := bind2_inv hf
      refine aftI (runV C hE hA hH [0, 1, 2, 3, 4, 5, 6, 7, 8, 9, 10, 11] nC_M_M_0_11 (sC_M_M_0_11 g ad G J) (kX6_finds l g ad _ G J (-1000000001 : Int32) r_58 G_59  hc_60) tw_5_9 tw_5_10 tw_5_11 tw_1_5 tw_5_12 hdX6_finds 0 rfl rfl rfl rfl ⟨Nat.le_of_ble_eq_true rfl, Nat.le_of_ble_eq_true rfl⟩ rfl hl.1 (rest := []) rfl (Nat.le_of_ble_eq_true rfl) dX6_light_77 ⟨Nat.zero_le _, Nat.zero_le _⟩) hA hH [0, 1, 2, 3, 4, 5, 6, 7, 8, 9, 10, 11] [] (sC_M_M_0_11 g ad G J) (sR_M_M_0_11 g ad G J) nR_M_M_0_11 dj_M_M_0_11 [0, 1, 2, 3, 4, 5, 6, 7, 8, 9, 10, 11] nP_M_M_0_11 (sP_M_M_0_11 g ad G J G_59 J) (fun H locs hH => ?_)
      exact j_80 r_58 G_59 _ _ ls hf hH (lv_sub hl [] rfl)
    · have hf := if_n hf c_57
      refine lv_aload_n hx hb dX6_light_65 rfl (lv_at hl 0 rfl) ?_
      refine lv_iconst (v := 2) hx hb dX6_light_66 (by decide) ?_
      refine lv_iload_n hx hb dX6_light_67 rfl (lv_at hl 2 rfl) ?_
      obtain ⟨r_61, G_62, hc_63, hf⟩ := bind2_inv hf
      refine aftI (runV C hE hA hH [0, 1, 2, 3, 4, 5, 6, 7, 8, 9, 10, 11] nC_M_M_0_11 (sC_M_M_0_11 g ad G J) (kX6_becomes l g ad _ G J (2 : Int32) x2 r_61 G_62  hc_63) tw_5_5 tw_5_6 tw_5_7 tw_1_5 tw_5_8 hdX6_becomes 0 rfl rfl rfl rfl ⟨Nat.le_of_ble_eq_true rfl, Nat.le_of_ble_eq_true rfl⟩ rfl hl.1 (rest := []) rfl (Nat.le_of_ble_eq_true rfl) dX6_light_68 ⟨Nat.zero_le _, Nat.zero_le _⟩) hA hH [0, 1, 2, 3, 4, 5, 6, 7, 8, 9, 10, 11] [] (sC_M_M_0_11 g ad G J) (sR_M_M_0_11 g ad G J) nR_M_M_0_11 dj_M_M_0_11 [0, 1, 2, 3, 4, 5, 6, 7, 8, 9, 10, 11] nP_M_M_0_11 (sP_M_M_0_11 g ad G J G_62 J) (fun H locs hH => ?_)
      refine lv_goto (tgt := 80) hx hb dX6_light_71 (by decide) ?_
      exact j_80 r_61 G_62 _ _ ls hf hH (lv_sub hl [] rfl)
  have hf := if_n hf c_54
  by_cases c_64 : x1 = 2
  · have hf := if_p hf c_64
    refine lv_tableIn (tgt := 81) hx hb dX6_light_1 (by rw [c_64]; decide) (by rw [c_64]; decide) (by rw [c_64]; rfl) (by decide) ?_
    refine lv_iload_n hx hb dX6_light_81 rfl (lv_at hl 2 rfl) ?_
    refine lv_iconst (v := 1) hx hb dX6_light_82 (by decide) ?_
    refine lv_iconst (v := 3) hx hb dX6_light_83 (by decide) ?_
    obtain ⟨r_65, hc_66, hf⟩ := bind_inv hf
    refine aftPI (runS C hE hA hH [] rfl rfl (kX6_in l g ad _ x2 (1 : Int32) (3 : Int32) r_65  hc_66) tw_5_2 tw_5_3 tw_1_5 tw_5_4 hdX6_in rfl rfl ⟨Nat.le_of_ble_eq_true rfl, Nat.le_of_ble_eq_true rfl⟩ rfl hl.1 (rest := []) rfl (Nat.le_of_ble_eq_true rfl) dX6_light_84 ⟨Nat.zero_le _, Nat.zero_le _⟩) ?_
    refine lv_if_eq (tgt := 99) hx hb dX6_light_87 (by decide) (fun c_67 => ?_) (fun c_67 => ?_)
    · have hf := if_p hf c_67
      refine lv_aload_n hx hb dX6_light_99 rfl (lv_at hl 0 rfl) ?_
      refine lv_ldc hx hb hown (hT _ tw_5_1) dX6_light_100 ?_
      obtain ⟨r_68, G_69, hc_70, hf⟩ := bind2_inv hf
      refine aftI (runV C hE hA hH [0, 1, 2, 3, 4, 5, 6, 7, 8, 9, 10, 11] nC_M_M_0_11 (sC_M_M_0_11 g ad G J) (kX6_finds l g ad _ G J (-1000000001 : Int32) r_68 G_69  hc_70) tw_5_9 tw_5_10 tw_5_11 tw_1_5 tw_5_12 hdX6_finds 0 rfl rfl rfl rfl ⟨Nat.le_of_ble_eq_true rfl, Nat.le_of_ble_eq_true rfl⟩ rfl hl.1 (rest := []) rfl (Nat.le_of_ble_eq_true rfl) dX6_light_102 ⟨Nat.zero_le _, Nat.zero_le _⟩) hA hH [0, 1, 2, 3, 4, 5, 6, 7, 8, 9, 10, 11] [] (sC_M_M_0_11 g ad G J) (sR_M_M_0_11 g ad G J) nR_M_M_0_11 dj_M_M_0_11 [0, 1, 2, 3, 4, 5, 6, 7, 8, 9, 10, 11] nP_M_M_0_11 (sP_M_M_0_11 g ad G J G_69 J) (fun H locs hH => ?_)
      exact j_105 r_68 G_69 _ _ ls hf hH (lv_sub hl [] rfl)
    · have hf := if_n hf c_67
      refine lv_aload_n hx hb dX6_light_90 rfl (lv_at hl 0 rfl) ?_
      refine lv_iconst (v := 3) hx hb dX6_light_91 (by decide) ?_
      refine lv_iload_n hx hb dX6_light_92 rfl (lv_at hl 2 rfl) ?_
      obtain ⟨r_71, G_72, hc_73, hf⟩ := bind2_inv hf
      refine aftI (runV C hE hA hH [0, 1, 2, 3, 4, 5, 6, 7, 8, 9, 10, 11] nC_M_M_0_11 (sC_M_M_0_11 g ad G J) (kX6_becomes l g ad _ G J (3 : Int32) x2 r_71 G_72  hc_73) tw_5_5 tw_5_6 tw_5_7 tw_1_5 tw_5_8 hdX6_becomes 0 rfl rfl rfl rfl ⟨Nat.le_of_ble_eq_true rfl, Nat.le_of_ble_eq_true rfl⟩ rfl hl.1 (rest := []) rfl (Nat.le_of_ble_eq_true rfl) dX6_light_93 ⟨Nat.zero_le _, Nat.zero_le _⟩) hA hH [0, 1, 2, 3, 4, 5, 6, 7, 8, 9, 10, 11] [] (sC_M_M_0_11 g ad G J) (sR_M_M_0_11 g ad G J) nR_M_M_0_11 dj_M_M_0_11 [0, 1, 2, 3, 4, 5, 6, 7, 8, 9, 10, 11] nP_M_M_0_11 (sP_M_M_0_11 g ad G J G_72 J) (fun H locs hH => ?_)
      refine lv_goto (tgt := 105) hx hb dX6_light_96 (by decide) ?_
      exact j_105 r_71 G_72 _ _ ls hf hH (lv_sub hl [] rfl)
  have hf := if_n hf c_64
  refine lv_tableOut (tgt := 106) hx hb dX6_light_1 (by have qc_44 := lv_neT c_44 (a := 0) (by decide); have qc_54 := lv_neT c_54 (a := 1) (by decide); have qc_64 := lv_neT c_64 (a := 2) (by decide); omega) (by decide) ?_
  refine lv_iload_n hx hb dX6_light_106 rfl (lv_at hl 1 rfl) ?_
  refine lv_iconst (v := 3) hx hb dX6_light_107 (by decide) ?_
  refine lv_icmp_ne (tgt := 129) hx hb dX6_light_108 (by decide) (fun c_74 => ?_) (fun c_74 => ?_)
  · have hf := if_n hf c_74
    exact j_129 G _ _ ls hf hH (lv_sub hl [0] rfl)
  · have hf := if_p hf c_74
    refine lv_iload_n hx hb dX6_light_111 rfl (lv_at hl 2 rfl) ?_
    refine lv_iconst (v := 0) hx hb dX6_light_112 (by decide) ?_
    refine lv_iconst (v := 2) hx hb dX6_light_113 (by decide) ?_
    obtain ⟨r_75, hc_76, hf⟩ := bind_inv hf
    refine aftPI (runS C hE hA hH [] rfl rfl (kX6_in l g ad _ x2 (0 : Int32) (2 : Int32) r_75  hc_76) tw_5_2 tw_5_3 tw_1_5 tw_5_4 hdX6_in rfl rfl ⟨Nat.le_of_ble_eq_true rfl, Nat.le_of_ble_eq_true rfl⟩ rfl hl.1 (rest := []) rfl (Nat.le_of_ble_eq_true rfl) dX6_light_114 ⟨Nat.zero_le _, Nat.zero_le _⟩) ?_
    refine lv_if_eq (tgt := 129) hx hb dX6_light_117 (by decide) (fun c_77 => ?_) (fun c_77 => ?_)
    · have hf := if_p hf c_77
      exact j_129 G _ _ ls hf hH (lv_sub hl [0] rfl)
    · have hf := if_n hf c_77
      refine lv_aload_n hx hb dX6_light_120 rfl (lv_at hl 0 rfl) ?_
      refine lv_iconst (v := 4) hx hb dX6_light_121 (by decide) ?_
      refine lv_iload_n hx hb dX6_light_122 rfl (lv_at hl 2 rfl) ?_
      obtain ⟨r_78, G_79, hc_80, hf⟩ := bind2_inv hf
      refine aftI (runV C hE hA hH [0, 1, 2, 3, 4, 5, 6, 7, 8, 9, 10, 11] nC_M_M_0_11 (sC_M_M_0_11 g ad G J) (kX6_becomes l g ad _ G J (4 : Int32) x2 r_78 G_79  hc_80) tw_5_5 tw_5_6 tw_5_7 tw_1_5 tw_5_8 hdX6_becomes 0 rfl rfl rfl rfl ⟨Nat.le_of_ble_eq_true rfl, Nat.le_of_ble_eq_true rfl⟩ rfl hl.1 (rest := []) rfl (Nat.le_of_ble_eq_true rfl) dX6_light_123 ⟨Nat.zero_le _, Nat.zero_le _⟩) hA hH [0, 1, 2, 3, 4, 5, 6, 7, 8, 9, 10, 11] [] (sC_M_M_0_11 g ad G J) (sR_M_M_0_11 g ad G J) nR_M_M_0_11 dj_M_M_0_11 [0, 1, 2, 3, 4, 5, 6, 7, 8, 9, 10, 11] nP_M_M_0_11 (sP_M_M_0_11 g ad G J G_79 J) (fun H locs hH => ?_)
      refine lv_goto (tgt := 135) hx hb dX6_light_126 (by decide) ?_
      exact j_135 r_78 G_79 _ _ ls hf hH (lv_sub hl [] rfl)
def fX6_isBrother_c25  (z0 : Int32) (G : M2) (J : J2) : Option (Int32) := grd (isB z0) (some z0)
def fX6_isBrother_c20  (G : M2) (J : J2) : Option (Int32) := fX6_isBrother_c25  (1 : Int32) G J
def fX6_isBrother (x1 : Int32) (G : M2) (J : J2) : Option (Int32) := (fX6_its x1 (0 : Int32) G J).bind (fun (r_7 : Int32) => (if r_7 = (1 : Int32) then fX6_isBrother_c20  G J else (fX6_its x1 (0 : Int32) G J).bind (fun (r_10 : Int32) => (if r_10 = (4 : Int32) then fX6_isBrother_c20  G J else fX6_isBrother_c25  (0 : Int32) G J))))
def rmX6_isBrother : Room := { frames := 1, cells := 0, slots := 0, locals := 22 }
theorem hdX6_isBrother : yX6_isBrother.cls = yX6_isBrother.cls ∧ yX6_isBrother.cls ≠ "java/lang/invoke/MethodHandle" ∧ yX6_isBrother.cls ≠ "java/lang/invoke/VarHandle" ∧ (parseMethodDescriptor yX6_isBrother.desc).map (fun d => d.parameters.length) = some 1 := by decide +kernel
set_option maxHeartbeats 4000000 in
set_option maxRecDepth 100000 in
theorem kX6_isBrother (l : Launch) (g : Gl) (ad : Nat → Nat) (sz : Nat) (G : M2) (J : J2) (x1 : Int32) (r : Int32)  (hf : fX6_isBrother x1 G J = some r) : MetPI l yX6_isBrother (Cond.code yX6_isBrother cX6_isBrother 2 (some .boolean) :: wsL_law) rmX6_isBrother [.ref (ad 0), .int x1] g (wM g ad G J) sz r := by
  refine openPI (by decide +kernel) (Nat.le_of_ble_eq_true rfl) ?_
  intro p e s m args below meth c A C hE hA hH ls hl
  have hl : lv_has ls 2 [(0, .ref (ad 0)), (1, .int x1)] := hl
  have C : Cx p s m args meth c cX6_isBrother 2 (some .boolean) RX6 := C
  obtain ⟨hx, hb, hml, hown, hT, hr, hlk⟩ := id C
  rw [fX6_isBrother] at hf
  have j_25 : ∀ (z0 : Int32) (ls : Array Slot), fX6_isBrother_c25  z0 G J = some r → lv_has ls 2 [] → W p l e rmX6_isBrother s m args below meth c s.heap [] 0 0 (QPI below args s r) (F0 m 25 ls [.int z0]) := by
    intro z0  ls hf hl
    rw [fX6_isBrother_c25] at hf
    obtain ⟨hz, hf⟩ := grd_inv hf
    have h1 := Option.some.inj hf
    subst h1
    exact retPI C (isB_nar hz) dX6_isBrother_25
  have j_20 : ∀  (ls : Array Slot), fX6_isBrother_c20  G J = some r → lv_has ls 2 [] → W p l e rmX6_isBrother s m args below meth c s.heap [] 0 0 (QPI below args s r) (F0 m 20 ls []) := by
    intro  ls hf hl
    rw [fX6_isBrother_c20] at hf
    refine lv_iconst (v := 1) hx hb dX6_isBrother_20 (by decide) ?_
    refine lv_goto (tgt := 25) hx hb dX6_isBrother_21 (by decide) ?_
    exact j_25 (1 : Int32) ls hf (lv_sub hl [] rfl)
  refine lv_aload_n hx hb dX6_isBrother_0 rfl (lv_at hl 0 rfl) ?_
  refine lv_iload_n hx hb dX6_isBrother_1 rfl (lv_at hl 1 rfl) ?_
  refine lv_iconst (v := 0) hx hb dX6_isBrother_2 (by decide) ?_
  obtain ⟨r_7, hc_8, hf⟩ := bind_inv hf
  refine aftPI (runV C hE hA hH [0, 1, 2, 3, 4, 5, 6, 7, 8, 9, 10, 11] nC_M_M_0_11 (sC_M_M_0_11 g ad G J) (kX6_its l g ad _ G J x1 (0 : Int32) r_7  hc_8) tw_10_14 tw_10_15 tw_10_16 tw_1_5 tw_10_17 hdX6_its 0 rfl rfl rfl rfl ⟨Nat.le_of_ble_eq_true rfl, Nat.le_of_ble_eq_true rfl⟩ rfl hl.1 (rest := []) rfl (Nat.le_of_ble_eq_true rfl) dX6_isBrother_3 ⟨Nat.zero_le _, Nat.zero_le _⟩) ?_
  refine lv_iconst (v := 1) hx hb dX6_isBrother_6 (by decide) ?_
  refine lv_icmp_eq (tgt := 20) hx hb dX6_isBrother_7 (by decide) (fun c_9 => ?_) (fun c_9 => ?_)
  · have hf := if_p hf c_9
    exact j_20  ls hf (lv_sub hl [] rfl)
  · have hf := if_n hf c_9
    refine lv_aload_n hx hb dX6_isBrother_10 rfl (lv_at hl 0 rfl) ?_
    refine lv_iload_n hx hb dX6_isBrother_11 rfl (lv_at hl 1 rfl) ?_
    refine lv_iconst (v := 0) hx hb dX6_isBrother_12 (by decide) ?_
    obtain ⟨r_10, hc_11, hf⟩ := bind_inv hf
    refine aftPI (runV C hE hA hH [0, 1, 2, 3, 4, 5, 6, 7, 8, 9, 10, 11] nC_M_M_0_11 (sC_M_M_0_11 g ad G J) (kX6_its l g ad _ G J x1 (0 : Int32) r_10  hc_11) tw_10_14 tw_10_15 tw_10_16 tw_1_5 tw_10_17 hdX6_its 0 rfl rfl rfl rfl ⟨Nat.le_of_ble_eq_true rfl, Nat.le_of_ble_eq_true rfl⟩ rfl hl.1 (rest := []) rfl (Nat.le_of_ble_eq_true rfl) dX6_isBrother_13 ⟨Nat.zero_le _, Nat.zero_le _⟩) ?_
    refine lv_iconst (v := 4) hx hb dX6_isBrother_16 (by decide) ?_
    refine lv_icmp_ne (tgt := 24) hx hb dX6_isBrother_17 (by decide) (fun c_12 => ?_) (fun c_12 => ?_)
    · have hf := if_n hf c_12
      refine lv_iconst (v := 0) hx hb dX6_isBrother_24 (by decide) ?_
      exact j_25 (0 : Int32) ls hf (lv_sub hl [] rfl)
    · have hf := if_p hf c_12
      exact j_20  ls hf (lv_sub hl [] rfl)
def fX6_besideBrother_c54  (y2 : Int32) (G : M2) (J : J2) : Option (Int32) := grd (isB y2) (some y2)
def fX6_besideBrother_c47 (k_4 : Int32 → Int32 → Int32 → M2 → J2 → Option (Int32)) (y1 : Int32) (y3 : Int32) (z0 : Int32) (G : M2) (J : J2) : Option (Int32) := letb (y3 + (1 : Int32)) (fun v_12 : Int32 => k_4 y1 z0 v_12 G J)
def fX6_besideBrother_c42 (k_4 : Int32 → Int32 → Int32 → M2 → J2 → Option (Int32)) (y1 : Int32) (y3 : Int32) (G : M2) (J : J2) : Option (Int32) := fX6_besideBrother_c47 k_4 y1 y3 (1 : Int32) G J
def fX6_besideBrother_c46 (k_4 : Int32 → Int32 → Int32 → M2 → J2 → Option (Int32)) (y1 : Int32) (y3 : Int32) (G : M2) (J : J2) : Option (Int32) := fX6_besideBrother_c47 k_4 y1 y3 (0 : Int32) G J
def fX6_besideBrother_c4  : Nat → Int32 → Int32 → Int32 → M2 → J2 → Option (Int32)
  | 0, _, _, _, _, _ => none
  | n + 1, y1, y2, y3, G, J => grd (inb (6 : Int32) 75) ((if (G 1 (6 : Int32).toNatClampNeg) ≤ y3 then fX6_besideBrother_c54  y2 G J else (if y2 = 0 then (if y3 = y1 then fX6_besideBrother_c46 (fX6_besideBrother_c4 n) y1 y3 G J else (fX6_its y3 (1 : Int32) G J).bind (fun (r_17 : Int32) => (if r_17 = (1 : Int32) then (fX6_isBrother y3 G J).bind (fun (r_20 : Int32) => (if r_20 = 0 then fX6_besideBrother_c46 (fX6_besideBrother_c4 n) y1 y3 G J else fX6_besideBrother_c42 (fX6_besideBrother_c4 n) y1 y3 G J)) else fX6_besideBrother_c46 (fX6_besideBrother_c4 n) y1 y3 G J))) else fX6_besideBrother_c42 (fX6_besideBrother_c4 n) y1 y3 G J)))
def fX6_besideBrother (x1 : Int32) (G : M2) (J : J2) : Option (Int32) := fX6_besideBrother_c4  FU x1 (0 : Int32) (0 : Int32) G J
def rmX6_besideBrother : Room := { frames := 2, cells := 0, slots := 0, locals := 43 }
theorem hdX6_besideBrother : yX6_besideBrother.cls = yX6_besideBrother.cls ∧ yX6_besideBrother.cls ≠ "java/lang/invoke/MethodHandle" ∧ yX6_besideBrother.cls ≠ "java/lang/invoke/VarHandle" ∧ (parseMethodDescriptor yX6_besideBrother.desc).map (fun d => d.parameters.length) = some 1 := by decide +kernel
set_option maxHeartbeats 4000000 in
set_option maxRecDepth 100000 in
theorem kX6_besideBrother (l : Launch) (g : Gl) (ad : Nat → Nat) (sz : Nat) (G : M2) (J : J2) (x1 : Int32) (r : Int32)  (hf : fX6_besideBrother x1 G J = some r) : MetPI l yX6_besideBrother (Cond.code yX6_besideBrother cX6_besideBrother 4 (some .boolean) :: wsL_law) rmX6_besideBrother [.ref (ad 0), .int x1] g (wM g ad G J) sz r := by
  refine openPI (by decide +kernel) (Nat.le_of_ble_eq_true rfl) ?_
  intro p e s m args below meth c A C hE hA hH ls hl
  have hl : lv_has ls 4 [(0, .ref (ad 0)), (1, .int x1)] := hl
  have C : Cx p s m args meth c cX6_besideBrother 4 (some .boolean) RX6 := C
  obtain ⟨hx, hb, hml, hown, hT, hr, hlk⟩ := id C
  rw [fX6_besideBrother] at hf
  have lp_4 : ∀ (n_4 : Nat) (y1 : Int32) (y2 : Int32) (y3 : Int32) (ls : Array Slot), fX6_besideBrother_c4  n_4 y1 y2 y3 G J = some r → lv_has ls 4 [(0, .ref (ad 0)), (1, .int y1), (2, .int y2), (3, .int y3)] → W p l e rmX6_besideBrother s m args below meth c s.heap [] 0 0 (QPI below args s r) (F0 m 4 ls []) := by
    intro n_4
    induction n_4 with
    | zero =>
      intro y1 y2 y3  ls hf hl
      rw [fX6_besideBrother_c4] at hf
      cases hf
    | succ n_4 ih_4 =>
      intro y1 y2 y3  ls hf hl
      rw [fX6_besideBrother_c4] at hf
      have j_54 : ∀ (y2 : Int32) (ls : Array Slot), fX6_besideBrother_c54  y2 G J = some r → lv_has ls 4 [(2, .int y2)] → W p l e rmX6_besideBrother s m args below meth c s.heap [] 0 0 (QPI below args s r) (F0 m 54 ls []) := by
        intro y2  ls hf hl
        rw [fX6_besideBrother_c54] at hf
        refine lv_iload_n hx hb dX6_besideBrother_54 rfl (lv_at hl 0 rfl) ?_
        obtain ⟨hz, hf⟩ := grd_inv hf
        have h1 := Option.some.inj hf
        subst h1
        exact retPI C (isB_nar hz) dX6_besideBrother_55
      have j_47 : ∀ (y1 : Int32) (y3 : Int32) (z0 : Int32) (ls : Array Slot), fX6_besideBrother_c47 (fX6_besideBrother_c4 n_4) y1 y3 z0 G J = some r → lv_has ls 4 [(0, .ref (ad 0)), (1, .int y1), (3, .int y3)] → W p l e rmX6_besideBrother s m args below meth c s.heap [] 0 0 (QPI below args s r) (F0 m 47 ls [.int z0]) := by
        intro y1 y3 z0  ls hf hl
        rw [fX6_besideBrother_c47] at hf
        refine lv_istore_n (lv' := [(2, .int z0), (0, .ref (ad 0)), (1, .int y1), (3, .int y3)]) hx hb dX6_besideBrother_47 rfl hl (by decide) rfl (fun ls hl => ?_)
        obtain ⟨v_12, ev_12⟩ : ∃ z : Int32, z = y3 + (1 : Int32) := ⟨_, rfl⟩
        have hf := letb_at hf v_12 ev_12
        refine lv_iinc (v := v_12) (lv' := [(3, .int v_12), (2, .int z0), (0, .ref (ad 0)), (1, .int y1)]) hx hb dX6_besideBrother_48 hl (k := 3) rfl (by rw [ev_12]; rfl) (by decide) rfl (fun ls hl => ?_)
        refine lv_goto (tgt := 4) hx hb dX6_besideBrother_51 (by decide) ?_
        exact ih_4 y1 z0 v_12 ls hf (lv_sub hl [2, 3, 1, 0] rfl)
      have j_42 : ∀ (y1 : Int32) (y3 : Int32) (ls : Array Slot), fX6_besideBrother_c42 (fX6_besideBrother_c4 n_4) y1 y3 G J = some r → lv_has ls 4 [(0, .ref (ad 0)), (1, .int y1), (3, .int y3)] → W p l e rmX6_besideBrother s m args below meth c s.heap [] 0 0 (QPI below args s r) (F0 m 42 ls []) := by
        intro y1 y3  ls hf hl
        rw [fX6_besideBrother_c42] at hf
        refine lv_iconst (v := 1) hx hb dX6_besideBrother_42 (by decide) ?_
        refine lv_goto (tgt := 47) hx hb dX6_besideBrother_43 (by decide) ?_
        exact j_47 y1 y3 (1 : Int32) ls hf (lv_sub hl [0, 1, 2] rfl)
      have j_46 : ∀ (y1 : Int32) (y3 : Int32) (ls : Array Slot), fX6_besideBrother_c46 (fX6_besideBrother_c4 n_4) y1 y3 G J = some r → lv_has ls 4 [(0, .ref (ad 0)), (1, .int y1), (3, .int y3)] → W p l e rmX6_besideBrother s m args below meth c s.heap [] 0 0 (QPI below args s r) (F0 m 46 ls []) := by
        intro y1 y3  ls hf hl
        rw [fX6_besideBrother_c46] at hf
        refine lv_iconst (v := 0) hx hb dX6_besideBrother_46 (by decide) ?_
        exact j_47 y1 y3 (0 : Int32) ls hf (lv_sub hl [0, 1, 2] rfl)
      refine lv_iload_n hx hb dX6_besideBrother_4 rfl (lv_at hl 3 rfl) ?_
      refine lv_aload_n hx hb dX6_besideBrother_5 rfl (lv_at hl 0 rfl) ?_
      refine gf_RX6_7 C hE hH 0 rfl rfl dX6_besideBrother_6 ?_
      refine lv_bipush (v := 6) hx hb dX6_besideBrother_9 (by decide) ?_
      obtain ⟨hi_13, hf⟩ := grd_inv hf
      refine xiald C hE hH 1 rfl hi_13 dX6_besideBrother_11 ?_
      refine lv_icmp_ge (tgt := 54) hx hb dX6_besideBrother_12 (by decide) (fun c_14 => ?_) (fun c_14 => ?_)
      · have hf := if_p hf c_14
        exact j_54 y2 ls hf (lv_sub hl [2] rfl)
      · have hf := if_n hf c_14
        refine lv_iload_n hx hb dX6_besideBrother_15 rfl (lv_at hl 2 rfl) ?_
        refine lv_if_ne (tgt := 42) hx hb dX6_besideBrother_16 (by decide) (fun c_15 => ?_) (fun c_15 => ?_)
        · have hf := if_n hf c_15
          exact j_42 y1 y3 ls hf (lv_sub hl [0, 1, 3] rfl)
        · have hf := if_p hf c_15
          refine lv_iload_n hx hb dX6_besideBrother_19 rfl (lv_at hl 3 rfl) ?_
          refine lv_iload_n hx hb dX6_besideBrother_20 rfl (lv_at hl 1 rfl) ?_
          refine lv_icmp_eq (tgt := 46) hx hb dX6_besideBrother_21 (by decide) (fun c_16 => ?_) (fun c_16 => ?_)
          · have hf := if_p hf c_16
            exact j_46 y1 y3 ls hf (lv_sub hl [0, 1, 3] rfl)
          · have hf := if_n hf c_16
            refine lv_aload_n hx hb dX6_besideBrother_24 rfl (lv_at hl 0 rfl) ?_
            refine lv_iload_n hx hb dX6_besideBrother_25 rfl (lv_at hl 3 rfl) ?_
            refine lv_iconst (v := 1) hx hb dX6_besideBrother_26 (by decide) ?_
            obtain ⟨r_17, hc_18, hf⟩ := bind_inv hf
            refine aftPI (runV C hE hA hH [0, 1, 2, 3, 4, 5, 6, 7, 8, 9, 10, 11] nC_M_M_0_11 (sC_M_M_0_11 g ad G J) (kX6_its l g ad _ G J y3 (1 : Int32) r_17  hc_18) tw_10_14 tw_10_15 tw_10_16 tw_1_5 tw_10_17 hdX6_its 0 rfl rfl rfl rfl ⟨Nat.le_of_ble_eq_true rfl, Nat.le_of_ble_eq_true rfl⟩ rfl hl.1 (rest := []) rfl (Nat.le_of_ble_eq_true rfl) dX6_besideBrother_27 ⟨Nat.zero_le _, Nat.zero_le _⟩) ?_
            refine lv_iconst (v := 1) hx hb dX6_besideBrother_30 (by decide) ?_
            refine lv_icmp_ne (tgt := 46) hx hb dX6_besideBrother_31 (by decide) (fun c_19 => ?_) (fun c_19 => ?_)
            · have hf := if_n hf c_19
              exact j_46 y1 y3 ls hf (lv_sub hl [0, 1, 3] rfl)
            · have hf := if_p hf c_19
              refine lv_aload_n hx hb dX6_besideBrother_34 rfl (lv_at hl 0 rfl) ?_
              refine lv_iload_n hx hb dX6_besideBrother_35 rfl (lv_at hl 3 rfl) ?_
              obtain ⟨r_20, hc_21, hf⟩ := bind_inv hf
              refine aftPI (runV C hE hA hH [0, 1, 2, 3, 4, 5, 6, 7, 8, 9, 10, 11] nC_M_M_0_11 (sC_M_M_0_11 g ad G J) (kX6_isBrother l g ad _ G J y3 r_20  hc_21) tw_10_22 tw_10_23 tw_11_0 tw_1_5 tw_11_1 hdX6_isBrother 0 rfl rfl rfl rfl ⟨Nat.le_of_ble_eq_true rfl, Nat.le_of_ble_eq_true rfl⟩ rfl hl.1 (rest := []) rfl (Nat.le_of_ble_eq_true rfl) dX6_besideBrother_36 ⟨Nat.zero_le _, Nat.zero_le _⟩) ?_
              refine lv_if_eq (tgt := 46) hx hb dX6_besideBrother_39 (by decide) (fun c_22 => ?_) (fun c_22 => ?_)
              · have hf := if_p hf c_22
                exact j_46 y1 y3 ls hf (lv_sub hl [0, 1, 3] rfl)
              · have hf := if_n hf c_22
                exact j_42 y1 y3 ls hf (lv_sub hl [0, 1, 3] rfl)
  refine lv_iconst (v := 0) hx hb dX6_besideBrother_0 (by decide) ?_
  refine lv_istore_n (lv' := [(2, .int (0 : Int32)), (0, .ref (ad 0)), (1, .int x1)]) hx hb dX6_besideBrother_1 rfl hl (by decide) rfl (fun ls hl => ?_)
  refine lv_iconst (v := 0) hx hb dX6_besideBrother_2 (by decide) ?_
  refine lv_istore_n (lv' := [(3, .int (0 : Int32)), (2, .int (0 : Int32)), (0, .ref (ad 0)), (1, .int x1)]) hx hb dX6_besideBrother_3 rfl hl (by decide) rfl (fun ls hl => ?_)
  exact lp_4 _ x1 (0 : Int32) (0 : Int32) ls hf (lv_sub hl [2, 3, 1, 0] rfl)
def fX6_uses_c49  (z0 : Int32) (G : M2) (J : J2) : Option (Int32) := some z0
def fX6_uses (x1 : Int32) (G : M2) (J : J2) : Option (Int32) := (fX6_its x1 (0 : Int32) G J).bind (fun (r_9 : Int32) => (if r_9 = 2 then some (1 : Int32) else (if r_9 = 3 then some (3 : Int32) else (if r_9 = 4 then (fX6_besideBrother x1 G J).bind (fun (r_14 : Int32) => (if r_14 = 0 then fX6_uses_c49  (2 : Int32) G J else fX6_uses_c49  (1 : Int32) G J)) else some (2 : Int32)))))
def rmX6_uses : Room := { frames := 3, cells := 0, slots := 0, locals := 66 }
theorem hdX6_uses : yX6_uses.cls = yX6_uses.cls ∧ yX6_uses.cls ≠ "java/lang/invoke/MethodHandle" ∧ yX6_uses.cls ≠ "java/lang/invoke/VarHandle" ∧ (parseMethodDescriptor yX6_uses.desc).map (fun d => d.parameters.length) = some 1 := by decide +kernel
set_option maxHeartbeats 4000000 in
set_option maxRecDepth 100000 in
theorem kX6_uses (l : Launch) (g : Gl) (ad : Nat → Nat) (sz : Nat) (G : M2) (J : J2) (x1 : Int32) (r : Int32)  (hf : fX6_uses x1 G J = some r) : MetPI l yX6_uses (Cond.code yX6_uses cX6_uses 2 (some .int) :: wsL_law) rmX6_uses [.ref (ad 0), .int x1] g (wM g ad G J) sz r := by
  refine openPI (by decide +kernel) (Nat.le_of_ble_eq_true rfl) ?_
  intro p e s m args below meth c A C hE hA hH ls hl
  have hl : lv_has ls 2 [(0, .ref (ad 0)), (1, .int x1)] := hl
  have C : Cx p s m args meth c cX6_uses 2 (some .int) RX6 := C
  obtain ⟨hx, hb, hml, hown, hT, hr, hlk⟩ := id C
  rw [fX6_uses] at hf
  have j_49 : ∀ (z0 : Int32) (ls : Array Slot), fX6_uses_c49  z0 G J = some r → lv_has ls 2 [] → W p l e rmX6_uses s m args below meth c s.heap [] 0 0 (QPI below args s r) (F0 m 49 ls [.int z0]) := by
    intro z0  ls hf hl
    rw [fX6_uses_c49] at hf
    have h1 := Option.some.inj hf
    subst h1
    exact retPI C rfl dX6_uses_49
  refine lv_aload_n hx hb dX6_uses_0 rfl (lv_at hl 0 rfl) ?_
  refine lv_iload_n hx hb dX6_uses_1 rfl (lv_at hl 1 rfl) ?_
  refine lv_iconst (v := 0) hx hb dX6_uses_2 (by decide) ?_
  obtain ⟨r_9, hc_10, hf⟩ := bind_inv hf
  refine aftPI (runV C hE hA hH [0, 1, 2, 3, 4, 5, 6, 7, 8, 9, 10, 11] nC_M_M_0_11 (sC_M_M_0_11 g ad G J) (kX6_its l g ad _ G J x1 (0 : Int32) r_9  hc_10) tw_10_14 tw_10_15 tw_10_16 tw_1_5 tw_10_17 hdX6_its 0 rfl rfl rfl rfl ⟨Nat.le_of_ble_eq_true rfl, Nat.le_of_ble_eq_true rfl⟩ rfl hl.1 (rest := []) rfl (Nat.le_of_ble_eq_true rfl) dX6_uses_3 ⟨Nat.zero_le _, Nat.zero_le _⟩) ?_
  by_cases c_11 : r_9 = 2
  · have hf := if_p hf c_11
    refine lv_tableIn (tgt := 32) hx hb dX6_uses_6 (by rw [c_11]; decide) (by rw [c_11]; decide) (by rw [c_11]; rfl) (by decide) ?_
    refine lv_iconst (v := 1) hx hb dX6_uses_32 (by decide) ?_
    have h1 := Option.some.inj hf
    subst h1
    exact retPI C rfl dX6_uses_33
  have hf := if_n hf c_11
  by_cases c_12 : r_9 = 3
  · have hf := if_p hf c_12
    refine lv_tableIn (tgt := 34) hx hb dX6_uses_6 (by rw [c_12]; decide) (by rw [c_12]; decide) (by rw [c_12]; rfl) (by decide) ?_
    refine lv_iconst (v := 3) hx hb dX6_uses_34 (by decide) ?_
    have h1 := Option.some.inj hf
    subst h1
    exact retPI C rfl dX6_uses_35
  have hf := if_n hf c_12
  by_cases c_13 : r_9 = 4
  · have hf := if_p hf c_13
    refine lv_tableIn (tgt := 36) hx hb dX6_uses_6 (by rw [c_13]; decide) (by rw [c_13]; decide) (by rw [c_13]; rfl) (by decide) ?_
    refine lv_aload_n hx hb dX6_uses_36 rfl (lv_at hl 0 rfl) ?_
    refine lv_iload_n hx hb dX6_uses_37 rfl (lv_at hl 1 rfl) ?_
    obtain ⟨r_14, hc_15, hf⟩ := bind_inv hf
    refine aftPI (runV C hE hA hH [0, 1, 2, 3, 4, 5, 6, 7, 8, 9, 10, 11] nC_M_M_0_11 (sC_M_M_0_11 g ad G J) (kX6_besideBrother l g ad _ G J x1 r_14  hc_15) tw_10_18 tw_10_19 tw_10_20 tw_1_5 tw_10_21 hdX6_besideBrother 0 rfl rfl rfl rfl ⟨Nat.le_of_ble_eq_true rfl, Nat.le_of_ble_eq_true rfl⟩ rfl hl.1 (rest := []) rfl (Nat.le_of_ble_eq_true rfl) dX6_uses_38 ⟨Nat.zero_le _, Nat.zero_le _⟩) ?_
    refine lv_if_eq (tgt := 48) hx hb dX6_uses_41 (by decide) (fun c_16 => ?_) (fun c_16 => ?_)
    · have hf := if_p hf c_16
      refine lv_iconst (v := 2) hx hb dX6_uses_48 (by decide) ?_
      exact j_49 (2 : Int32) ls hf (lv_sub hl [] rfl)
    · have hf := if_n hf c_16
      refine lv_iconst (v := 1) hx hb dX6_uses_44 (by decide) ?_
      refine lv_goto (tgt := 49) hx hb dX6_uses_45 (by decide) ?_
      exact j_49 (1 : Int32) ls hf (lv_sub hl [] rfl)
  have hf := if_n hf c_13
  refine lv_tableOut (tgt := 50) hx hb dX6_uses_6 (by have qc_11 := lv_neT c_11 (a := 2) (by decide); have qc_12 := lv_neT c_12 (a := 3) (by decide); have qc_13 := lv_neT c_13 (a := 4) (by decide); omega) (by decide) ?_
  refine lv_iconst (v := 2) hx hb dX6_uses_50 (by decide) ?_
  have h1 := Option.some.inj hf
  subst h1
  exact retPI C rfl dX6_uses_51
def fX6_brings_c55  (y2 : Int32) (G : M2) (J : J2) : Option (Int32) := some ((10 : Int32) * y2)
def fX6_brings (x1 : Int32) (x2 : Int32) (G : M2) (J : J2) : Option (Int32) := (fX6_its x1 (0 : Int32) G J).bind (fun (r_7 : Int32) => (if r_7 = 2 then some ((5 : Int32) * x2) else (if r_7 = 3 then some (((10 : Int32) * x2) + (7 : Int32)) else (if r_7 = 4 then fX6_brings_c55  x2 G J else (if r_7 = 5 then some (((5 : Int32) * x2) + (20 : Int32)) else fX6_brings_c55  x2 G J)))))
def rmX6_brings : Room := { frames := 1, cells := 0, slots := 0, locals := 22 }
theorem hdX6_brings : yX6_brings.cls = yX6_brings.cls ∧ yX6_brings.cls ≠ "java/lang/invoke/MethodHandle" ∧ yX6_brings.cls ≠ "java/lang/invoke/VarHandle" ∧ (parseMethodDescriptor yX6_brings.desc).map (fun d => d.parameters.length) = some 2 := by decide +kernel
set_option maxHeartbeats 4000000 in
set_option maxRecDepth 100000 in
theorem kX6_brings (l : Launch) (g : Gl) (ad : Nat → Nat) (sz : Nat) (G : M2) (J : J2) (x1 : Int32) (x2 : Int32) (r : Int32)  (hf : fX6_brings x1 x2 G J = some r) : MetPI l yX6_brings (Cond.code yX6_brings cX6_brings 3 (some .int) :: wsL_law) rmX6_brings [.ref (ad 0), .int x1, .int x2] g (wM g ad G J) sz r := by
  refine openPI (by decide +kernel) (Nat.le_of_ble_eq_true rfl) ?_
  intro p e s m args below meth c A C hE hA hH ls hl
  have hl : lv_has ls 3 [(0, .ref (ad 0)), (1, .int x1), (2, .int x2)] := hl
  have C : Cx p s m args meth c cX6_brings 3 (some .int) RX6 := C
  obtain ⟨hx, hb, hml, hown, hT, hr, hlk⟩ := id C
  rw [fX6_brings] at hf
  have j_55 : ∀ (y2 : Int32) (ls : Array Slot), fX6_brings_c55  y2 G J = some r → lv_has ls 3 [(2, .int y2)] → W p l e rmX6_brings s m args below meth c s.heap [] 0 0 (QPI below args s r) (F0 m 55 ls []) := by
    intro y2  ls hf hl
    rw [fX6_brings_c55] at hf
    refine lv_bipush (v := 10) hx hb dX6_brings_55 (by decide) ?_
    refine lv_iload_n hx hb dX6_brings_57 rfl (lv_at hl 0 rfl) ?_
    refine lv_imul hx hb dX6_brings_58 ?_
    have h1 := Option.some.inj hf
    subst h1
    exact retPI C rfl dX6_brings_59
  refine lv_aload_n hx hb dX6_brings_0 rfl (lv_at hl 0 rfl) ?_
  refine lv_iload_n hx hb dX6_brings_1 rfl (lv_at hl 1 rfl) ?_
  refine lv_iconst (v := 0) hx hb dX6_brings_2 (by decide) ?_
  obtain ⟨r_7, hc_8, hf⟩ := bind_inv hf
  refine aftPI (runV C hE hA hH [0, 1, 2, 3, 4, 5, 6, 7, 8, 9, 10, 11] nC_M_M_0_11 (sC_M_M_0_11 g ad G J) (kX6_its l g ad _ G J x1 (0 : Int32) r_7  hc_8) tw_10_14 tw_10_15 tw_10_16 tw_1_5 tw_10_17 hdX6_its 0 rfl rfl rfl rfl ⟨Nat.le_of_ble_eq_true rfl, Nat.le_of_ble_eq_true rfl⟩ rfl hl.1 (rest := []) rfl (Nat.le_of_ble_eq_true rfl) dX6_brings_3 ⟨Nat.zero_le _, Nat.zero_le _⟩) ?_
  by_cases c_9 : r_7 = 2
  · have hf := if_p hf c_9
    refine lv_tableIn (tgt := 36) hx hb dX6_brings_6 (by rw [c_9]; decide) (by rw [c_9]; decide) (by rw [c_9]; rfl) (by decide) ?_
    refine lv_iconst (v := 5) hx hb dX6_brings_36 (by decide) ?_
    refine lv_iload_n hx hb dX6_brings_37 rfl (lv_at hl 2 rfl) ?_
    refine lv_imul hx hb dX6_brings_38 ?_
    have h1 := Option.some.inj hf
    subst h1
    exact retPI C rfl dX6_brings_39
  have hf := if_n hf c_9
  by_cases c_10 : r_7 = 3
  · have hf := if_p hf c_10
    refine lv_tableIn (tgt := 47) hx hb dX6_brings_6 (by rw [c_10]; decide) (by rw [c_10]; decide) (by rw [c_10]; rfl) (by decide) ?_
    refine lv_bipush (v := 10) hx hb dX6_brings_47 (by decide) ?_
    refine lv_iload_n hx hb dX6_brings_49 rfl (lv_at hl 2 rfl) ?_
    refine lv_imul hx hb dX6_brings_50 ?_
    refine lv_bipush (v := 7) hx hb dX6_brings_51 (by decide) ?_
    refine lv_iadd hx hb dX6_brings_53 ?_
    have h1 := Option.some.inj hf
    subst h1
    exact retPI C rfl dX6_brings_54
  have hf := if_n hf c_10
  by_cases c_11 : r_7 = 4
  · have hf := if_p hf c_11
    refine lv_tableIn (tgt := 55) hx hb dX6_brings_6 (by rw [c_11]; decide) (by rw [c_11]; decide) (by rw [c_11]; rfl) (by decide) ?_
    exact j_55 x2 ls hf (lv_sub hl [2] rfl)
  have hf := if_n hf c_11
  by_cases c_12 : r_7 = 5
  · have hf := if_p hf c_12
    refine lv_tableIn (tgt := 40) hx hb dX6_brings_6 (by rw [c_12]; decide) (by rw [c_12]; decide) (by rw [c_12]; rfl) (by decide) ?_
    refine lv_iconst (v := 5) hx hb dX6_brings_40 (by decide) ?_
    refine lv_iload_n hx hb dX6_brings_41 rfl (lv_at hl 2 rfl) ?_
    refine lv_imul hx hb dX6_brings_42 ?_
    refine lv_bipush (v := 20) hx hb dX6_brings_43 (by decide) ?_
    refine lv_iadd hx hb dX6_brings_45 ?_
    have h1 := Option.some.inj hf
    subst h1
    exact retPI C rfl dX6_brings_46
  have hf := if_n hf c_12
  refine lv_tableOut (tgt := 55) hx hb dX6_brings_6 (by have qc_9 := lv_neT c_9 (a := 2) (by decide); have qc_10 := lv_neT c_10 (a := 3) (by decide); have qc_11 := lv_neT c_11 (a := 4) (by decide); have qc_12 := lv_neT c_12 (a := 5) (by decide); omega) (by decide) ?_
  exact j_55 x2 ls hf (lv_sub hl [2] rfl)
def fX6_tells (x1 : Int32) (x2 : Int32) (G : M2) (J : J2) : Option (Int32) := (fX6_its x1 (0 : Int32) G J).bind (fun (r_8 : Int32) => (if r_8 = 1 then some ((2 : Int32) * x2) else (if r_8 = 2 then some (1 : Int32) else (if r_8 = 3 then some (x2 - (1 : Int32)) else (if r_8 = 4 then some (((2 : Int32) * x2) + (1 : Int32)) else (if r_8 = 5 then some ((1 : Int32) + (x2 / (3 : Int32))) else some x2))))))
def rmX6_tells : Room := { frames := 1, cells := 0, slots := 0, locals := 22 }
theorem hdX6_tells : yX6_tells.cls = yX6_tells.cls ∧ yX6_tells.cls ≠ "java/lang/invoke/MethodHandle" ∧ yX6_tells.cls ≠ "java/lang/invoke/VarHandle" ∧ (parseMethodDescriptor yX6_tells.desc).map (fun d => d.parameters.length) = some 2 := by decide +kernel
set_option maxHeartbeats 4000000 in
set_option maxRecDepth 100000 in
theorem kX6_tells (l : Launch) (g : Gl) (ad : Nat → Nat) (sz : Nat) (G : M2) (J : J2) (x1 : Int32) (x2 : Int32) (r : Int32)  (hf : fX6_tells x1 x2 G J = some r) : MetPI l yX6_tells (Cond.code yX6_tells cX6_tells 3 (some .int) :: wsL_law) rmX6_tells [.ref (ad 0), .int x1, .int x2] g (wM g ad G J) sz r := by
  refine openPI (by decide +kernel) (Nat.le_of_ble_eq_true rfl) ?_
  intro p e s m args below meth c A C hE hA hH ls hl
  have hl : lv_has ls 3 [(0, .ref (ad 0)), (1, .int x1), (2, .int x2)] := hl
  have C : Cx p s m args meth c cX6_tells 3 (some .int) RX6 := C
  obtain ⟨hx, hb, hml, hown, hT, hr, hlk⟩ := id C
  rw [fX6_tells] at hf
  refine lv_aload_n hx hb dX6_tells_0 rfl (lv_at hl 0 rfl) ?_
  refine lv_iload_n hx hb dX6_tells_1 rfl (lv_at hl 1 rfl) ?_
  refine lv_iconst (v := 0) hx hb dX6_tells_2 (by decide) ?_
  obtain ⟨r_8, hc_9, hf⟩ := bind_inv hf
  refine aftPI (runV C hE hA hH [0, 1, 2, 3, 4, 5, 6, 7, 8, 9, 10, 11] nC_M_M_0_11 (sC_M_M_0_11 g ad G J) (kX6_its l g ad _ G J x1 (0 : Int32) r_8  hc_9) tw_10_14 tw_10_15 tw_10_16 tw_1_5 tw_10_17 hdX6_its 0 rfl rfl rfl rfl ⟨Nat.le_of_ble_eq_true rfl, Nat.le_of_ble_eq_true rfl⟩ rfl hl.1 (rest := []) rfl (Nat.le_of_ble_eq_true rfl) dX6_tells_3 ⟨Nat.zero_le _, Nat.zero_le _⟩) ?_
  by_cases c_10 : r_8 = 1
  · have hf := if_p hf c_10
    refine lv_tableIn (tgt := 40) hx hb dX6_tells_6 (by rw [c_10]; decide) (by rw [c_10]; decide) (by rw [c_10]; rfl) (by decide) ?_
    refine lv_iconst (v := 2) hx hb dX6_tells_40 (by decide) ?_
    refine lv_iload_n hx hb dX6_tells_41 rfl (lv_at hl 2 rfl) ?_
    refine lv_imul hx hb dX6_tells_42 ?_
    have h1 := Option.some.inj hf
    subst h1
    exact retPI C rfl dX6_tells_43
  have hf := if_n hf c_10
  by_cases c_11 : r_8 = 2
  · have hf := if_p hf c_11
    refine lv_tableIn (tgt := 50) hx hb dX6_tells_6 (by rw [c_11]; decide) (by rw [c_11]; decide) (by rw [c_11]; rfl) (by decide) ?_
    refine lv_iconst (v := 1) hx hb dX6_tells_50 (by decide) ?_
    have h1 := Option.some.inj hf
    subst h1
    exact retPI C rfl dX6_tells_51
  have hf := if_n hf c_11
  by_cases c_12 : r_8 = 3
  · have hf := if_p hf c_12
    refine lv_tableIn (tgt := 58) hx hb dX6_tells_6 (by rw [c_12]; decide) (by rw [c_12]; decide) (by rw [c_12]; rfl) (by decide) ?_
    refine lv_iload_n hx hb dX6_tells_58 rfl (lv_at hl 2 rfl) ?_
    refine lv_iconst (v := 1) hx hb dX6_tells_59 (by decide) ?_
    refine lv_isub hx hb dX6_tells_60 ?_
    have h1 := Option.some.inj hf
    subst h1
    exact retPI C rfl dX6_tells_61
  have hf := if_n hf c_12
  by_cases c_13 : r_8 = 4
  · have hf := if_p hf c_13
    refine lv_tableIn (tgt := 44) hx hb dX6_tells_6 (by rw [c_13]; decide) (by rw [c_13]; decide) (by rw [c_13]; rfl) (by decide) ?_
    refine lv_iconst (v := 2) hx hb dX6_tells_44 (by decide) ?_
    refine lv_iload_n hx hb dX6_tells_45 rfl (lv_at hl 2 rfl) ?_
    refine lv_imul hx hb dX6_tells_46 ?_
    refine lv_iconst (v := 1) hx hb dX6_tells_47 (by decide) ?_
    refine lv_iadd hx hb dX6_tells_48 ?_
    have h1 := Option.some.inj hf
    subst h1
    exact retPI C rfl dX6_tells_49
  have hf := if_n hf c_13
  by_cases c_14 : r_8 = 5
  · have hf := if_p hf c_14
    refine lv_tableIn (tgt := 52) hx hb dX6_tells_6 (by rw [c_14]; decide) (by rw [c_14]; decide) (by rw [c_14]; rfl) (by decide) ?_
    refine lv_iconst (v := 1) hx hb dX6_tells_52 (by decide) ?_
    refine lv_iload_n hx hb dX6_tells_53 rfl (lv_at hl 2 rfl) ?_
    refine lv_iconst (v := 3) hx hb dX6_tells_54 (by decide) ?_
    refine lv_idiv hx hb dX6_tells_55 (by decide) ?_
    refine lv_iadd hx hb dX6_tells_56 ?_
    have h1 := Option.some.inj hf
    subst h1
    exact retPI C rfl dX6_tells_57
  have hf := if_n hf c_14
  refine lv_tableOut (tgt := 62) hx hb dX6_tells_6 (by have qc_10 := lv_neT c_10 (a := 1) (by decide); have qc_11 := lv_neT c_11 (a := 2) (by decide); have qc_12 := lv_neT c_12 (a := 3) (by decide); have qc_13 := lv_neT c_13 (a := 4) (by decide); have qc_14 := lv_neT c_14 (a := 5) (by decide); omega) (by decide) ?_
  refine lv_iload_n hx hb dX6_tells_62 rfl (lv_at hl 2 rfl) ?_
  have h1 := Option.some.inj hf
  subst h1
  exact retPI C rfl dX6_tells_63
def fX6_adds (x1 : Int32) (x2 : Int32) (x3 : Int32) (G : M2) (J : J2) : Option (M2) := grd (inb (6 : Int32) 75) (letb (G 1 (6 : Int32).toNatClampNeg) (fun v_18 : Int32 => (fX6_puts v_18 (0 : Int32) x1 G J).bind (fun (G_19 : M2) => (fX6_puts v_18 (1 : Int32) x2 G_19 J).bind (fun (G_21 : M2) => grd (inb (0 : Int32) 75) ((fX6_puts v_18 (2 : Int32) (G_21 1 (0 : Int32).toNatClampNeg) G_21 J).bind (fun (G_24 : M2) => (fX6_puts v_18 (3 : Int32) x3 G_24 J).bind (fun (G_26 : M2) => (fX6_puts v_18 (4 : Int32) (0 : Int32) G_26 J).bind (fun (G_28 : M2) => grd (inb (6 : Int32) 75) (grd (inb (6 : Int32) 75) (letb (st2 G_28 1 (upd (G_28 1) (6 : Int32).toNatClampNeg ((G_28 1 (6 : Int32).toNatClampNeg) + (1 : Int32)))) (fun G_32 : M2 => some G_32)))))))))))
def rmX6_adds : Room := { frames := 1, cells := 0, slots := 0, locals := 23 }
theorem hdX6_adds : yX6_adds.cls = yX6_adds.cls ∧ yX6_adds.cls ≠ "java/lang/invoke/MethodHandle" ∧ yX6_adds.cls ≠ "java/lang/invoke/VarHandle" ∧ (parseMethodDescriptor yX6_adds.desc).map (fun d => d.parameters.length) = some 3 := by decide +kernel
set_option maxHeartbeats 4000000 in
set_option maxRecDepth 100000 in
theorem kX6_adds (l : Launch) (g : Gl) (ad : Nat → Nat) (sz : Nat) (G : M2) (J : J2) (x1 : Int32) (x2 : Int32) (x3 : Int32) (G' : M2)  (hf : fX6_adds x1 x2 x3 G J = some G') : MetV l yX6_adds (Cond.code yX6_adds cX6_adds 5 none :: wsL_law) rmX6_adds [.ref (ad 0), .int x1, .int x2, .int x3] g (wM g ad G J) sz (wM g ad G' J) := by
  refine openV (by decide +kernel) (Nat.le_of_ble_eq_true rfl) ?_
  intro p e s m args below meth c A C hE hA hH ls hl
  have hl : lv_has ls 5 [(0, .ref (ad 0)), (1, .int x1), (2, .int x2), (3, .int x3)] := hl
  have C : Cx p s m args meth c cX6_adds 5 none RX6 := C
  obtain ⟨hx, hb, hml, hown, hT, hr, hlk⟩ := id C
  rw [fX6_adds] at hf
  refine lv_aload_n hx hb dX6_adds_0 rfl (lv_at hl 0 rfl) ?_
  refine gf_RX6_7 C hE hH 0 rfl rfl dX6_adds_1 ?_
  refine lv_bipush (v := 6) hx hb dX6_adds_4 (by decide) ?_
  obtain ⟨hi_17, hf⟩ := grd_inv hf
  refine xiald C hE hH 1 rfl hi_17 dX6_adds_6 ?_
  refine lv_topi (fun v_18 ev_18 => ?_)
  have hf := letb_at hf v_18 ev_18
  refine lv_istore (lv' := [(4, .int v_18), (0, .ref (ad 0)), (1, .int x1), (2, .int x2), (3, .int x3)]) hx hb dX6_adds_7 hl (by decide) rfl (fun ls hl => ?_)
  refine lv_aload_n hx hb dX6_adds_9 rfl (lv_at hl 1 rfl) ?_
  refine lv_iload hx hb dX6_adds_10 (lv_at hl 0 rfl) ?_
  refine lv_iconst (v := 0) hx hb dX6_adds_12 (by decide) ?_
  refine lv_iload_n hx hb dX6_adds_13 rfl (lv_at hl 2 rfl) ?_
  obtain ⟨G_19, hc_20, hf⟩ := bind_inv hf
  refine aftV (runV C hE hA hH [0, 1, 2, 3, 4, 5, 6, 7, 8, 9, 10, 11] nC_M_M_0_11 (sC_M_M_0_11 g ad G J) (kX6_puts l g ad _ G J v_18 (0 : Int32) x1 G_19  hc_20) tw_8_17 tw_8_18 tw_8_19 tw_1_5 tw_8_20 hdX6_puts 0 rfl rfl rfl rfl ⟨Nat.le_of_ble_eq_true rfl, Nat.le_of_ble_eq_true rfl⟩ rfl hl.1 (rest := []) rfl (Nat.le_of_ble_eq_true rfl) dX6_adds_14 ⟨Nat.zero_le _, Nat.zero_le _⟩) hA hH [0, 1, 2, 3, 4, 5, 6, 7, 8, 9, 10, 11] [] (sC_M_M_0_11 g ad G J) (sR_M_M_0_11 g ad G J) nR_M_M_0_11 dj_M_M_0_11 [0, 1, 2, 3, 4, 5, 6, 7, 8, 9, 10, 11] nP_M_M_0_11 (sP_M_M_0_11 g ad G J G_19 J) (fun H locs hH => ?_)
  refine lv_aload_n hx hb dX6_adds_17 rfl (lv_at hl 1 rfl) ?_
  refine lv_iload hx hb dX6_adds_18 (lv_at hl 0 rfl) ?_
  refine lv_iconst (v := 1) hx hb dX6_adds_20 (by decide) ?_
  refine lv_iload_n hx hb dX6_adds_21 rfl (lv_at hl 3 rfl) ?_
  obtain ⟨G_21, hc_22, hf⟩ := bind_inv hf
  refine aftV (runV C hE hA hH [0, 1, 2, 3, 4, 5, 6, 7, 8, 9, 10, 11] nC_M_M_0_11 (sC_M_M_0_11 g ad G_19 J) (kX6_puts l g ad _ G_19 J v_18 (1 : Int32) x2 G_21  hc_22) tw_8_17 tw_8_18 tw_8_19 tw_1_5 tw_8_20 hdX6_puts 0 rfl rfl rfl rfl ⟨Nat.le_of_ble_eq_true rfl, Nat.le_of_ble_eq_true rfl⟩ rfl hl.1 (rest := []) rfl (Nat.le_of_ble_eq_true rfl) dX6_adds_22 ⟨Nat.zero_le _, Nat.zero_le _⟩) hA hH [0, 1, 2, 3, 4, 5, 6, 7, 8, 9, 10, 11] [] (sC_M_M_0_11 g ad G_19 J) (sR_M_M_0_11 g ad G_19 J) nR_M_M_0_11 dj_M_M_0_11 [0, 1, 2, 3, 4, 5, 6, 7, 8, 9, 10, 11] nP_M_M_0_11 (sP_M_M_0_11 g ad G_19 J G_21 J) (fun H locs hH => ?_)
  refine lv_aload_n hx hb dX6_adds_25 rfl (lv_at hl 1 rfl) ?_
  refine lv_iload hx hb dX6_adds_26 (lv_at hl 0 rfl) ?_
  refine lv_iconst (v := 2) hx hb dX6_adds_28 (by decide) ?_
  refine lv_aload_n hx hb dX6_adds_29 rfl (lv_at hl 1 rfl) ?_
  refine gf_RX6_7 C hE hH 0 rfl rfl dX6_adds_30 ?_
  refine lv_iconst (v := 0) hx hb dX6_adds_33 (by decide) ?_
  obtain ⟨hi_23, hf⟩ := grd_inv hf
  refine xiald C hE hH 1 rfl hi_23 dX6_adds_34 ?_
  obtain ⟨G_24, hc_25, hf⟩ := bind_inv hf
  refine aftV (runV C hE hA hH [0, 1, 2, 3, 4, 5, 6, 7, 8, 9, 10, 11] nC_M_M_0_11 (sC_M_M_0_11 g ad G_21 J) (kX6_puts l g ad _ G_21 J v_18 (2 : Int32) (G_21 1 (0 : Int32).toNatClampNeg) G_24  hc_25) tw_8_17 tw_8_18 tw_8_19 tw_1_5 tw_8_20 hdX6_puts 0 rfl rfl rfl rfl ⟨Nat.le_of_ble_eq_true rfl, Nat.le_of_ble_eq_true rfl⟩ rfl hl.1 (rest := []) rfl (Nat.le_of_ble_eq_true rfl) dX6_adds_35 ⟨Nat.zero_le _, Nat.zero_le _⟩) hA hH [0, 1, 2, 3, 4, 5, 6, 7, 8, 9, 10, 11] [] (sC_M_M_0_11 g ad G_21 J) (sR_M_M_0_11 g ad G_21 J) nR_M_M_0_11 dj_M_M_0_11 [0, 1, 2, 3, 4, 5, 6, 7, 8, 9, 10, 11] nP_M_M_0_11 (sP_M_M_0_11 g ad G_21 J G_24 J) (fun H locs hH => ?_)
  refine lv_aload_n hx hb dX6_adds_38 rfl (lv_at hl 1 rfl) ?_
  refine lv_iload hx hb dX6_adds_39 (lv_at hl 0 rfl) ?_
  refine lv_iconst (v := 3) hx hb dX6_adds_41 (by decide) ?_
  refine lv_iload_n hx hb dX6_adds_42 rfl (lv_at hl 4 rfl) ?_
  obtain ⟨G_26, hc_27, hf⟩ := bind_inv hf
  refine aftV (runV C hE hA hH [0, 1, 2, 3, 4, 5, 6, 7, 8, 9, 10, 11] nC_M_M_0_11 (sC_M_M_0_11 g ad G_24 J) (kX6_puts l g ad _ G_24 J v_18 (3 : Int32) x3 G_26  hc_27) tw_8_17 tw_8_18 tw_8_19 tw_1_5 tw_8_20 hdX6_puts 0 rfl rfl rfl rfl ⟨Nat.le_of_ble_eq_true rfl, Nat.le_of_ble_eq_true rfl⟩ rfl hl.1 (rest := []) rfl (Nat.le_of_ble_eq_true rfl) dX6_adds_43 ⟨Nat.zero_le _, Nat.zero_le _⟩) hA hH [0, 1, 2, 3, 4, 5, 6, 7, 8, 9, 10, 11] [] (sC_M_M_0_11 g ad G_24 J) (sR_M_M_0_11 g ad G_24 J) nR_M_M_0_11 dj_M_M_0_11 [0, 1, 2, 3, 4, 5, 6, 7, 8, 9, 10, 11] nP_M_M_0_11 (sP_M_M_0_11 g ad G_24 J G_26 J) (fun H locs hH => ?_)
  refine lv_aload_n hx hb dX6_adds_46 rfl (lv_at hl 1 rfl) ?_
  refine lv_iload hx hb dX6_adds_47 (lv_at hl 0 rfl) ?_
  refine lv_iconst (v := 4) hx hb dX6_adds_49 (by decide) ?_
  refine lv_iconst (v := 0) hx hb dX6_adds_50 (by decide) ?_
  obtain ⟨G_28, hc_29, hf⟩ := bind_inv hf
  refine aftV (runV C hE hA hH [0, 1, 2, 3, 4, 5, 6, 7, 8, 9, 10, 11] nC_M_M_0_11 (sC_M_M_0_11 g ad G_26 J) (kX6_puts l g ad _ G_26 J v_18 (4 : Int32) (0 : Int32) G_28  hc_29) tw_8_17 tw_8_18 tw_8_19 tw_1_5 tw_8_20 hdX6_puts 0 rfl rfl rfl rfl ⟨Nat.le_of_ble_eq_true rfl, Nat.le_of_ble_eq_true rfl⟩ rfl hl.1 (rest := []) rfl (Nat.le_of_ble_eq_true rfl) dX6_adds_51 ⟨Nat.zero_le _, Nat.zero_le _⟩) hA hH [0, 1, 2, 3, 4, 5, 6, 7, 8, 9, 10, 11] [] (sC_M_M_0_11 g ad G_26 J) (sR_M_M_0_11 g ad G_26 J) nR_M_M_0_11 dj_M_M_0_11 [0, 1, 2, 3, 4, 5, 6, 7, 8, 9, 10, 11] nP_M_M_0_11 (sP_M_M_0_11 g ad G_26 J G_28 J) (fun H locs hH => ?_)
  refine lv_aload_n hx hb dX6_adds_54 rfl (lv_at hl 1 rfl) ?_
  refine gf_RX6_7 C hE hH 0 rfl rfl dX6_adds_55 ?_
  refine lv_bipush (v := 6) hx hb dX6_adds_58 (by decide) ?_
  refine lv_dup2_11 hx hb dX6_adds_60 rfl rfl ?_
  obtain ⟨hi_30, hf⟩ := grd_inv hf
  refine xiald C hE hH 1 rfl hi_30 dX6_adds_61 ?_
  refine lv_iconst (v := 1) hx hb dX6_adds_62 (by decide) ?_
  refine lv_iadd hx hb dX6_adds_63 ?_
  obtain ⟨hi_31, hf⟩ := grd_inv hf
  refine xiast C hE hH 1 rfl hi_31 (fun q : M2 => wM g ad q J) (st2 G_28 1 (upd (G_28 1) (6 : Int32).toNatClampNeg ((G_28 1 (6 : Int32).toNatClampNeg) + (1 : Int32)))) rfl dX6_adds_64 (fun G_32 eG_32 H locs hH => ?_)
  have hf := letb_at hf G_32 eG_32
  have h1 := Option.some.inj hf
  subst h1
  exact retV C hH dX6_adds_65
def fX6_keeper (x1 : Int32) (G : M2) (J : J2) : Option (Int32 × M2) := (fX6_isKind x1).bind (fun (r_15 : Int32) => (if r_15 = 0 then bind2 (fX6_finds (-1000000001 : Int32) G J) (fun (r_26 : Int32) (G_27 : M2) => some (r_26, G_27)) else grd (inb (6 : Int32) 75) ((if (G 1 (6 : Int32).toNatClampNeg) = (8 : Int32) then bind2 (fX6_finds (-1000000002 : Int32) G J) (fun (r_23 : Int32) (G_24 : M2) => some (r_23, G_24)) else (fX6_adds x1 (0 : Int32) (0 : Int32) G J).bind (fun (G_20 : M2) => grd (inb (6 : Int32) 75) (some ((G_20 1 (6 : Int32).toNatClampNeg) - (1 : Int32), G_20)))))))
def rmX6_keeper : Room := { frames := 2, cells := 0, slots := 0, locals := 47 }
theorem hdX6_keeper : yX6_keeper.cls = yX6_keeper.cls ∧ yX6_keeper.cls ≠ "java/lang/invoke/MethodHandle" ∧ yX6_keeper.cls ≠ "java/lang/invoke/VarHandle" ∧ (parseMethodDescriptor yX6_keeper.desc).map (fun d => d.parameters.length) = some 1 := by decide +kernel
set_option maxHeartbeats 4000000 in
set_option maxRecDepth 100000 in
theorem kX6_keeper (l : Launch) (g : Gl) (ad : Nat → Nat) (sz : Nat) (G : M2) (J : J2) (x1 : Int32) (r : Int32) (G' : M2)  (hf : fX6_keeper x1 G J = some (r, G')) : MetI l yX6_keeper (Cond.code yX6_keeper cX6_keeper 2 (some .int) :: wsL_law) rmX6_keeper [.ref (ad 0), .int x1] g (wM g ad G J) sz r (wM g ad G' J) := by
  refine openI (by decide +kernel) (Nat.le_of_ble_eq_true rfl) ?_
  intro p e s m args below meth c A C hE hA hH ls hl
  have hl : lv_has ls 2 [(0, .ref (ad 0)), (1, .int x1)] := hl
  have C : Cx p s m args meth c cX6_keeper 2 (some .int) RX6 := C
  obtain ⟨hx, hb, hml, hown, hT, hr, hlk⟩ := id C
  rw [fX6_keeper] at hf
  refine lv_iload_n hx hb dX6_keeper_0 rfl (lv_at hl 1 rfl) ?_
  obtain ⟨r_15, hc_16, hf⟩ := bind_inv hf
  refine aftPI (runS C hE hA hH [] rfl rfl (kX6_isKind l g ad _ x1 r_15  hc_16) tw_8_10 tw_8_11 tw_1_5 tw_8_12 hdX6_isKind rfl rfl ⟨Nat.le_of_ble_eq_true rfl, Nat.le_of_ble_eq_true rfl⟩ rfl hl.1 (rest := []) rfl (Nat.le_of_ble_eq_true rfl) dX6_keeper_1 ⟨Nat.zero_le _, Nat.zero_le _⟩) ?_
  refine lv_if_ne (tgt := 14) hx hb dX6_keeper_4 (by decide) (fun c_17 => ?_) (fun c_17 => ?_)
  · have hf := if_n hf c_17
    refine lv_aload_n hx hb dX6_keeper_14 rfl (lv_at hl 0 rfl) ?_
    refine gf_RX6_7 C hE hH 0 rfl rfl dX6_keeper_15 ?_
    refine lv_bipush (v := 6) hx hb dX6_keeper_18 (by decide) ?_
    obtain ⟨hi_18, hf⟩ := grd_inv hf
    refine xiald C hE hH 1 rfl hi_18 dX6_keeper_20 ?_
    refine lv_bipush (v := 8) hx hb dX6_keeper_21 (by decide) ?_
    refine lv_icmp_ne (tgt := 33) hx hb dX6_keeper_23 (by decide) (fun c_19 => ?_) (fun c_19 => ?_)
    · have hf := if_n hf c_19
      refine lv_aload_n hx hb dX6_keeper_33 rfl (lv_at hl 0 rfl) ?_
      refine lv_iload_n hx hb dX6_keeper_34 rfl (lv_at hl 1 rfl) ?_
      refine lv_iconst (v := 0) hx hb dX6_keeper_35 (by decide) ?_
      refine lv_iconst (v := 0) hx hb dX6_keeper_36 (by decide) ?_
      obtain ⟨G_20, hc_21, hf⟩ := bind_inv hf
      refine aftV (runV C hE hA hH [0, 1, 2, 3, 4, 5, 6, 7, 8, 9, 10, 11] nC_M_M_0_11 (sC_M_M_0_11 g ad G J) (kX6_adds l g ad _ G J x1 (0 : Int32) (0 : Int32) G_20  hc_21) tw_8_13 tw_8_14 tw_8_15 tw_1_5 tw_8_16 hdX6_adds 0 rfl rfl rfl rfl ⟨Nat.le_of_ble_eq_true rfl, Nat.le_of_ble_eq_true rfl⟩ rfl hl.1 (rest := []) rfl (Nat.le_of_ble_eq_true rfl) dX6_keeper_37 ⟨Nat.zero_le _, Nat.zero_le _⟩) hA hH [0, 1, 2, 3, 4, 5, 6, 7, 8, 9, 10, 11] [] (sC_M_M_0_11 g ad G J) (sR_M_M_0_11 g ad G J) nR_M_M_0_11 dj_M_M_0_11 [0, 1, 2, 3, 4, 5, 6, 7, 8, 9, 10, 11] nP_M_M_0_11 (sP_M_M_0_11 g ad G J G_20 J) (fun H locs hH => ?_)
      refine lv_aload_n hx hb dX6_keeper_40 rfl (lv_at hl 0 rfl) ?_
      refine gf_RX6_7 C hE hH 0 rfl rfl dX6_keeper_41 ?_
      refine lv_bipush (v := 6) hx hb dX6_keeper_44 (by decide) ?_
      obtain ⟨hi_22, hf⟩ := grd_inv hf
      refine xiald C hE hH 1 rfl hi_22 dX6_keeper_46 ?_
      refine lv_iconst (v := 1) hx hb dX6_keeper_47 (by decide) ?_
      refine lv_isub hx hb dX6_keeper_48 ?_
      have hf := Option.some.inj hf
      obtain ⟨h1, h2⟩ := Prod.mk.inj hf
      subst h1
      subst h2
      exact retI C hH rfl dX6_keeper_49
    · have hf := if_p hf c_19
      refine lv_aload_n hx hb dX6_keeper_26 rfl (lv_at hl 0 rfl) ?_
      refine lv_ldc hx hb hown (hT _ tw_8_9) dX6_keeper_27 ?_
      obtain ⟨r_23, G_24, hc_25, hf⟩ := bind2_inv hf
      refine aftI (runV C hE hA hH [0, 1, 2, 3, 4, 5, 6, 7, 8, 9, 10, 11] nC_M_M_0_11 (sC_M_M_0_11 g ad G J) (kX6_finds l g ad _ G J (-1000000002 : Int32) r_23 G_24  hc_25) tw_5_9 tw_5_10 tw_5_11 tw_1_5 tw_5_12 hdX6_finds 0 rfl rfl rfl rfl ⟨Nat.le_of_ble_eq_true rfl, Nat.le_of_ble_eq_true rfl⟩ rfl hl.1 (rest := []) rfl (Nat.le_of_ble_eq_true rfl) dX6_keeper_29 ⟨Nat.zero_le _, Nat.zero_le _⟩) hA hH [0, 1, 2, 3, 4, 5, 6, 7, 8, 9, 10, 11] [] (sC_M_M_0_11 g ad G J) (sR_M_M_0_11 g ad G J) nR_M_M_0_11 dj_M_M_0_11 [0, 1, 2, 3, 4, 5, 6, 7, 8, 9, 10, 11] nP_M_M_0_11 (sP_M_M_0_11 g ad G J G_24 J) (fun H locs hH => ?_)
      have hf := Option.some.inj hf
      obtain ⟨h1, h2⟩ := Prod.mk.inj hf
      subst h1
      subst h2
      exact retI C hH rfl dX6_keeper_32
  · have hf := if_p hf c_17
    refine lv_aload_n hx hb dX6_keeper_7 rfl (lv_at hl 0 rfl) ?_
    refine lv_ldc hx hb hown (hT _ tw_5_1) dX6_keeper_8 ?_
    obtain ⟨r_26, G_27, hc_28, hf⟩ := bind2_inv hf
    refine aftI (runV C hE hA hH [0, 1, 2, 3, 4, 5, 6, 7, 8, 9, 10, 11] nC_M_M_0_11 (sC_M_M_0_11 g ad G J) (kX6_finds l g ad _ G J (-1000000001 : Int32) r_26 G_27  hc_28) tw_5_9 tw_5_10 tw_5_11 tw_1_5 tw_5_12 hdX6_finds 0 rfl rfl rfl rfl ⟨Nat.le_of_ble_eq_true rfl, Nat.le_of_ble_eq_true rfl⟩ rfl hl.1 (rest := []) rfl (Nat.le_of_ble_eq_true rfl) dX6_keeper_10 ⟨Nat.zero_le _, Nat.zero_le _⟩) hA hH [0, 1, 2, 3, 4, 5, 6, 7, 8, 9, 10, 11] [] (sC_M_M_0_11 g ad G J) (sR_M_M_0_11 g ad G J) nR_M_M_0_11 dj_M_M_0_11 [0, 1, 2, 3, 4, 5, 6, 7, 8, 9, 10, 11] nP_M_M_0_11 (sP_M_M_0_11 g ad G J G_27 J) (fun H locs hH => ?_)
    have hf := Option.some.inj hf
    obtain ⟨h1, h2⟩ := Prod.mk.inj hf
    subst h1
    subst h2
    exact retI C hH rfl dX6_keeper_13
def fX6_of_c17  (G : M2) (J : J2) : Option (Int32 × M2) := bind2 (fX6_finds (-1000000001 : Int32) G J) (fun (r_15 : Int32) (G_16 : M2) => some (r_15, G_16))
def fX6_of_c43  (z0 : Int32) (G : M2) (J : J2) : Option (Int32 × M2) := some (z0, G)
def fX6_of (x1 : Int32) (x2 : Int32) (G : M2) (J : J2) : Option (Int32 × M2) := (fX6_isOne x1 G J).bind (fun (r_18 : Int32) => (if r_18 = 0 then fX6_of_c17  G J else (fX6_in x2 (0 : Int32) (5 : Int32)).bind (fun (r_21 : Int32) => (if r_21 = 0 then fX6_of_c17  G J else (if x2 = (5 : Int32) then (fX6_uses x1 G J).bind (fun (r_27 : Int32) => fX6_of_c43  r_27 G J) else (fX6_its x1 x2 G J).bind (fun (r_25 : Int32) => fX6_of_c43  r_25 G J))))))
def rmX6_of : Room := { frames := 4, cells := 0, slots := 0, locals := 87 }
theorem hdX6_of : yX6_of.cls = yX6_of.cls ∧ yX6_of.cls ≠ "java/lang/invoke/MethodHandle" ∧ yX6_of.cls ≠ "java/lang/invoke/VarHandle" ∧ (parseMethodDescriptor yX6_of.desc).map (fun d => d.parameters.length) = some 2 := by decide +kernel
set_option maxHeartbeats 4000000 in
set_option maxRecDepth 100000 in
theorem kX6_of (l : Launch) (g : Gl) (ad : Nat → Nat) (sz : Nat) (G : M2) (J : J2) (x1 : Int32) (x2 : Int32) (r : Int32) (G' : M2)  (hf : fX6_of x1 x2 G J = some (r, G')) : MetI l yX6_of (Cond.code yX6_of cX6_of 3 (some .int) :: wsL_law) rmX6_of [.ref (ad 0), .int x1, .int x2] g (wM g ad G J) sz r (wM g ad G' J) := by
  refine openI (by decide +kernel) (Nat.le_of_ble_eq_true rfl) ?_
  intro p e s m args below meth c A C hE hA hH ls hl
  have hl : lv_has ls 3 [(0, .ref (ad 0)), (1, .int x1), (2, .int x2)] := hl
  have C : Cx p s m args meth c cX6_of 3 (some .int) RX6 := C
  obtain ⟨hx, hb, hml, hown, hT, hr, hlk⟩ := id C
  rw [fX6_of] at hf
  have j_17 : ∀ (G : M2) (H : Heap) (locs : List Loc) (ls : Array Slot), fX6_of_c17  G J = some (r, G') → Hp g A s H locs (wM g ad G J) → lv_has ls 3 [(0, .ref (ad 0))] → W p l e rmX6_of s m args below meth c H locs 0 0 (QI g A below args s r (wM g ad G' J)) (F0 m 17 ls []) := by
    intro G H locs  ls hf hH hl
    rw [fX6_of_c17] at hf
    refine lv_aload_n hx hb dX6_of_17 rfl (lv_at hl 0 rfl) ?_
    refine lv_ldc hx hb hown (hT _ tw_5_1) dX6_of_18 ?_
    obtain ⟨r_15, G_16, hc_17, hf⟩ := bind2_inv hf
    refine aftI (runV C hE hA hH [0, 1, 2, 3, 4, 5, 6, 7, 8, 9, 10, 11] nC_M_M_0_11 (sC_M_M_0_11 g ad G J) (kX6_finds l g ad _ G J (-1000000001 : Int32) r_15 G_16  hc_17) tw_5_9 tw_5_10 tw_5_11 tw_1_5 tw_5_12 hdX6_finds 0 rfl rfl rfl rfl ⟨Nat.le_of_ble_eq_true rfl, Nat.le_of_ble_eq_true rfl⟩ rfl hl.1 (rest := []) rfl (Nat.le_of_ble_eq_true rfl) dX6_of_20 ⟨Nat.zero_le _, Nat.zero_le _⟩) hA hH [0, 1, 2, 3, 4, 5, 6, 7, 8, 9, 10, 11] [] (sC_M_M_0_11 g ad G J) (sR_M_M_0_11 g ad G J) nR_M_M_0_11 dj_M_M_0_11 [0, 1, 2, 3, 4, 5, 6, 7, 8, 9, 10, 11] nP_M_M_0_11 (sP_M_M_0_11 g ad G J G_16 J) (fun H locs hH => ?_)
    have hf := Option.some.inj hf
    obtain ⟨h1, h2⟩ := Prod.mk.inj hf
    subst h1
    subst h2
    exact retI C hH rfl dX6_of_23
  have j_43 : ∀ (z0 : Int32) (G : M2) (H : Heap) (locs : List Loc) (ls : Array Slot), fX6_of_c43  z0 G J = some (r, G') → Hp g A s H locs (wM g ad G J) → lv_has ls 3 [] → W p l e rmX6_of s m args below meth c H locs 0 0 (QI g A below args s r (wM g ad G' J)) (F0 m 43 ls [.int z0]) := by
    intro z0 G H locs  ls hf hH hl
    rw [fX6_of_c43] at hf
    have hf := Option.some.inj hf
    obtain ⟨h1, h2⟩ := Prod.mk.inj hf
    subst h1
    subst h2
    exact retI C hH rfl dX6_of_43
  refine lv_aload_n hx hb dX6_of_0 rfl (lv_at hl 0 rfl) ?_
  refine lv_iload_n hx hb dX6_of_1 rfl (lv_at hl 1 rfl) ?_
  obtain ⟨r_18, hc_19, hf⟩ := bind_inv hf
  refine aftPI (runV C hE hA hH [0, 1, 2, 3, 4, 5, 6, 7, 8, 9, 10, 11] nC_M_M_0_11 (sC_M_M_0_11 g ad G J) (kX6_isOne l g ad _ G J x1 r_18  hc_19) tw_10_6 tw_10_7 tw_10_8 tw_1_5 tw_10_9 hdX6_isOne 0 rfl rfl rfl rfl ⟨Nat.le_of_ble_eq_true rfl, Nat.le_of_ble_eq_true rfl⟩ rfl hl.1 (rest := []) rfl (Nat.le_of_ble_eq_true rfl) dX6_of_2 ⟨Nat.zero_le _, Nat.zero_le _⟩) ?_
  refine lv_if_eq (tgt := 17) hx hb dX6_of_5 (by decide) (fun c_20 => ?_) (fun c_20 => ?_)
  · have hf := if_p hf c_20
    exact j_17 G _ _ ls hf hH (lv_sub hl [0] rfl)
  · have hf := if_n hf c_20
    refine lv_iload_n hx hb dX6_of_8 rfl (lv_at hl 2 rfl) ?_
    refine lv_iconst (v := 0) hx hb dX6_of_9 (by decide) ?_
    refine lv_iconst (v := 5) hx hb dX6_of_10 (by decide) ?_
    obtain ⟨r_21, hc_22, hf⟩ := bind_inv hf
    refine aftPI (runS C hE hA hH [] rfl rfl (kX6_in l g ad _ x2 (0 : Int32) (5 : Int32) r_21  hc_22) tw_5_2 tw_5_3 tw_1_5 tw_5_4 hdX6_in rfl rfl ⟨Nat.le_of_ble_eq_true rfl, Nat.le_of_ble_eq_true rfl⟩ rfl hl.1 (rest := []) rfl (Nat.le_of_ble_eq_true rfl) dX6_of_11 ⟨Nat.zero_le _, Nat.zero_le _⟩) ?_
    refine lv_if_ne (tgt := 24) hx hb dX6_of_14 (by decide) (fun c_23 => ?_) (fun c_23 => ?_)
    · have hf := if_n hf c_23
      refine lv_iload_n hx hb dX6_of_24 rfl (lv_at hl 2 rfl) ?_
      refine lv_iconst (v := 5) hx hb dX6_of_25 (by decide) ?_
      refine lv_icmp_ne (tgt := 37) hx hb dX6_of_26 (by decide) (fun c_24 => ?_) (fun c_24 => ?_)
      · have hf := if_n hf c_24
        refine lv_aload_n hx hb dX6_of_37 rfl (lv_at hl 0 rfl) ?_
        refine lv_iload_n hx hb dX6_of_38 rfl (lv_at hl 1 rfl) ?_
        refine lv_iload_n hx hb dX6_of_39 rfl (lv_at hl 2 rfl) ?_
        obtain ⟨r_25, hc_26, hf⟩ := bind_inv hf
        refine aftPI (runV C hE hA hH [0, 1, 2, 3, 4, 5, 6, 7, 8, 9, 10, 11] nC_M_M_0_11 (sC_M_M_0_11 g ad G J) (kX6_its l g ad _ G J x1 x2 r_25  hc_26) tw_10_14 tw_10_15 tw_10_16 tw_1_5 tw_10_17 hdX6_its 0 rfl rfl rfl rfl ⟨Nat.le_of_ble_eq_true rfl, Nat.le_of_ble_eq_true rfl⟩ rfl hl.1 (rest := []) rfl (Nat.le_of_ble_eq_true rfl) dX6_of_40 ⟨Nat.zero_le _, Nat.zero_le _⟩) ?_
        exact j_43 r_25 G _ _ ls hf hH (lv_sub hl [] rfl)
      · have hf := if_p hf c_24
        refine lv_aload_n hx hb dX6_of_29 rfl (lv_at hl 0 rfl) ?_
        refine lv_iload_n hx hb dX6_of_30 rfl (lv_at hl 1 rfl) ?_
        obtain ⟨r_27, hc_28, hf⟩ := bind_inv hf
        refine aftPI (runV C hE hA hH [0, 1, 2, 3, 4, 5, 6, 7, 8, 9, 10, 11] nC_M_M_0_11 (sC_M_M_0_11 g ad G J) (kX6_uses l g ad _ G J x1 r_27  hc_28) tw_10_10 tw_10_11 tw_10_12 tw_1_5 tw_10_13 hdX6_uses 0 rfl rfl rfl rfl ⟨Nat.le_of_ble_eq_true rfl, Nat.le_of_ble_eq_true rfl⟩ rfl hl.1 (rest := []) rfl (Nat.le_of_ble_eq_true rfl) dX6_of_31 ⟨Nat.zero_le _, Nat.zero_le _⟩) ?_
        refine lv_goto (tgt := 43) hx hb dX6_of_34 (by decide) ?_
        exact j_43 r_27 G _ _ ls hf hH (lv_sub hl [] rfl)
    · have hf := if_p hf c_23
      exact j_17 G _ _ ls hf hH (lv_sub hl [0] rfl)
def fX6_can_c27  (G : M2) (J : J2) : Option (Int32 × M2) := bind2 (fX6_finds (-1000000001 : Int32) G J) (fun (r_18 : Int32) (G_19 : M2) => some (r_18, G_19))
def fX6_can_c53  (z0 : Int32) (G : M2) (J : J2) : Option (Int32 × M2) := some (z0, G)
def fX6_can (x1 : Int32) (x2 : Int32) (x3 : Int32) (G : M2) (J : J2) : Option (Int32 × M2) := (fX6_isOne x1 G J).bind (fun (r_21 : Int32) => (if r_21 = 0 then fX6_can_c27  G J else (fX6_in x2 (0 : Int32) (1 : Int32)).bind (fun (r_24 : Int32) => (if r_24 = 0 then fX6_can_c27  G J else (fX6_in x3 (1 : Int32) (13 : Int32)).bind (fun (r_27 : Int32) => (if r_27 = 0 then fX6_can_c27  G J else (if x2 = 0 then (fX6_brings x1 x3 G J).bind (fun (r_33 : Int32) => fX6_can_c53  r_33 G J) else (fX6_tells x1 x3 G J).bind (fun (r_31 : Int32) => fX6_can_c53  r_31 G J))))))))
def rmX6_can : Room := { frames := 2, cells := 0, slots := 0, locals := 44 }
theorem hdX6_can : yX6_can.cls = yX6_can.cls ∧ yX6_can.cls ≠ "java/lang/invoke/MethodHandle" ∧ yX6_can.cls ≠ "java/lang/invoke/VarHandle" ∧ (parseMethodDescriptor yX6_can.desc).map (fun d => d.parameters.length) = some 3 := by decide +kernel
set_option maxHeartbeats 4000000 in
set_option maxRecDepth 100000 in
theorem kX6_can (l : Launch) (g : Gl) (ad : Nat → Nat) (sz : Nat) (G : M2) (J : J2) (x1 : Int32) (x2 : Int32) (x3 : Int32) (r : Int32) (G' : M2)  (hf : fX6_can x1 x2 x3 G J = some (r, G')) : MetI l yX6_can (Cond.code yX6_can cX6_can 4 (some .int) :: wsL_law) rmX6_can [.ref (ad 0), .int x1, .int x2, .int x3] g (wM g ad G J) sz r (wM g ad G' J) := by
  refine openI (by decide +kernel) (Nat.le_of_ble_eq_true rfl) ?_
  intro p e s m args below meth c A C hE hA hH ls hl
  have hl : lv_has ls 4 [(0, .ref (ad 0)), (1, .int x1), (2, .int x2), (3, .int x3)] := hl
  have C : Cx p s m args meth c cX6_can 4 (some .int) RX6 := C
  obtain ⟨hx, hb, hml, hown, hT, hr, hlk⟩ := id C
  rw [fX6_can] at hf
  have j_27 : ∀ (G : M2) (H : Heap) (locs : List Loc) (ls : Array Slot), fX6_can_c27  G J = some (r, G') → Hp g A s H locs (wM g ad G J) → lv_has ls 4 [(0, .ref (ad 0))] → W p l e rmX6_can s m args below meth c H locs 0 0 (QI g A below args s r (wM g ad G' J)) (F0 m 27 ls []) := by
    intro G H locs  ls hf hH hl
    rw [fX6_can_c27] at hf
    refine lv_aload_n hx hb dX6_can_27 rfl (lv_at hl 0 rfl) ?_
    refine lv_ldc hx hb hown (hT _ tw_5_1) dX6_can_28 ?_
    obtain ⟨r_18, G_19, hc_20, hf⟩ := bind2_inv hf
    refine aftI (runV C hE hA hH [0, 1, 2, 3, 4, 5, 6, 7, 8, 9, 10, 11] nC_M_M_0_11 (sC_M_M_0_11 g ad G J) (kX6_finds l g ad _ G J (-1000000001 : Int32) r_18 G_19  hc_20) tw_5_9 tw_5_10 tw_5_11 tw_1_5 tw_5_12 hdX6_finds 0 rfl rfl rfl rfl ⟨Nat.le_of_ble_eq_true rfl, Nat.le_of_ble_eq_true rfl⟩ rfl hl.1 (rest := []) rfl (Nat.le_of_ble_eq_true rfl) dX6_can_30 ⟨Nat.zero_le _, Nat.zero_le _⟩) hA hH [0, 1, 2, 3, 4, 5, 6, 7, 8, 9, 10, 11] [] (sC_M_M_0_11 g ad G J) (sR_M_M_0_11 g ad G J) nR_M_M_0_11 dj_M_M_0_11 [0, 1, 2, 3, 4, 5, 6, 7, 8, 9, 10, 11] nP_M_M_0_11 (sP_M_M_0_11 g ad G J G_19 J) (fun H locs hH => ?_)
    have hf := Option.some.inj hf
    obtain ⟨h1, h2⟩ := Prod.mk.inj hf
    subst h1
    subst h2
    exact retI C hH rfl dX6_can_33
  have j_53 : ∀ (z0 : Int32) (G : M2) (H : Heap) (locs : List Loc) (ls : Array Slot), fX6_can_c53  z0 G J = some (r, G') → Hp g A s H locs (wM g ad G J) → lv_has ls 4 [] → W p l e rmX6_can s m args below meth c H locs 0 0 (QI g A below args s r (wM g ad G' J)) (F0 m 53 ls [.int z0]) := by
    intro z0 G H locs  ls hf hH hl
    rw [fX6_can_c53] at hf
    have hf := Option.some.inj hf
    obtain ⟨h1, h2⟩ := Prod.mk.inj hf
    subst h1
    subst h2
    exact retI C hH rfl dX6_can_53
  refine lv_aload_n hx hb dX6_can_0 rfl (lv_at hl 0 rfl) ?_
  refine lv_iload_n hx hb dX6_can_1 rfl (lv_at hl 1 rfl) ?_
  obtain ⟨r_21, hc_22, hf⟩ := bind_inv hf
  refine aftPI (runV C hE hA hH [0, 1, 2, 3, 4, 5, 6, 7, 8, 9, 10, 11] nC_M_M_0_11 (sC_M_M_0_11 g ad G J) (kX6_isOne l g ad _ G J x1 r_21  hc_22) tw_10_6 tw_10_7 tw_10_8 tw_1_5 tw_10_9 hdX6_isOne 0 rfl rfl rfl rfl ⟨Nat.le_of_ble_eq_true rfl, Nat.le_of_ble_eq_true rfl⟩ rfl hl.1 (rest := []) rfl (Nat.le_of_ble_eq_true rfl) dX6_can_2 ⟨Nat.zero_le _, Nat.zero_le _⟩) ?_
  refine lv_if_eq (tgt := 27) hx hb dX6_can_5 (by decide) (fun c_23 => ?_) (fun c_23 => ?_)
  · have hf := if_p hf c_23
    exact j_27 G _ _ ls hf hH (lv_sub hl [0] rfl)
  · have hf := if_n hf c_23
    refine lv_iload_n hx hb dX6_can_8 rfl (lv_at hl 2 rfl) ?_
    refine lv_iconst (v := 0) hx hb dX6_can_9 (by decide) ?_
    refine lv_iconst (v := 1) hx hb dX6_can_10 (by decide) ?_
    obtain ⟨r_24, hc_25, hf⟩ := bind_inv hf
    refine aftPI (runS C hE hA hH [] rfl rfl (kX6_in l g ad _ x2 (0 : Int32) (1 : Int32) r_24  hc_25) tw_5_2 tw_5_3 tw_1_5 tw_5_4 hdX6_in rfl rfl ⟨Nat.le_of_ble_eq_true rfl, Nat.le_of_ble_eq_true rfl⟩ rfl hl.1 (rest := []) rfl (Nat.le_of_ble_eq_true rfl) dX6_can_11 ⟨Nat.zero_le _, Nat.zero_le _⟩) ?_
    refine lv_if_eq (tgt := 27) hx hb dX6_can_14 (by decide) (fun c_26 => ?_) (fun c_26 => ?_)
    · have hf := if_p hf c_26
      exact j_27 G _ _ ls hf hH (lv_sub hl [0] rfl)
    · have hf := if_n hf c_26
      refine lv_iload_n hx hb dX6_can_17 rfl (lv_at hl 3 rfl) ?_
      refine lv_iconst (v := 1) hx hb dX6_can_18 (by decide) ?_
      refine lv_bipush (v := 13) hx hb dX6_can_19 (by decide) ?_
      obtain ⟨r_27, hc_28, hf⟩ := bind_inv hf
      refine aftPI (runS C hE hA hH [] rfl rfl (kX6_in l g ad _ x3 (1 : Int32) (13 : Int32) r_27  hc_28) tw_5_2 tw_5_3 tw_1_5 tw_5_4 hdX6_in rfl rfl ⟨Nat.le_of_ble_eq_true rfl, Nat.le_of_ble_eq_true rfl⟩ rfl hl.1 (rest := []) rfl (Nat.le_of_ble_eq_true rfl) dX6_can_21 ⟨Nat.zero_le _, Nat.zero_le _⟩) ?_
      refine lv_if_ne (tgt := 34) hx hb dX6_can_24 (by decide) (fun c_29 => ?_) (fun c_29 => ?_)
      · have hf := if_n hf c_29
        refine lv_iload_n hx hb dX6_can_34 rfl (lv_at hl 2 rfl) ?_
        refine lv_if_ne (tgt := 47) hx hb dX6_can_35 (by decide) (fun c_30 => ?_) (fun c_30 => ?_)
        · have hf := if_n hf c_30
          refine lv_aload_n hx hb dX6_can_47 rfl (lv_at hl 0 rfl) ?_
          refine lv_iload_n hx hb dX6_can_48 rfl (lv_at hl 1 rfl) ?_
          refine lv_iload_n hx hb dX6_can_49 rfl (lv_at hl 3 rfl) ?_
          obtain ⟨r_31, hc_32, hf⟩ := bind_inv hf
          refine aftPI (runV C hE hA hH [0, 1, 2, 3, 4, 5, 6, 7, 8, 9, 10, 11] nC_M_M_0_11 (sC_M_M_0_11 g ad G J) (kX6_tells l g ad _ G J x1 x3 r_31  hc_32) tw_11_20 tw_11_21 tw_11_22 tw_1_5 tw_11_23 hdX6_tells 0 rfl rfl rfl rfl ⟨Nat.le_of_ble_eq_true rfl, Nat.le_of_ble_eq_true rfl⟩ rfl hl.1 (rest := []) rfl (Nat.le_of_ble_eq_true rfl) dX6_can_50 ⟨Nat.zero_le _, Nat.zero_le _⟩) ?_
          exact j_53 r_31 G _ _ ls hf hH (lv_sub hl [] rfl)
        · have hf := if_p hf c_30
          refine lv_aload_n hx hb dX6_can_38 rfl (lv_at hl 0 rfl) ?_
          refine lv_iload_n hx hb dX6_can_39 rfl (lv_at hl 1 rfl) ?_
          refine lv_iload_n hx hb dX6_can_40 rfl (lv_at hl 3 rfl) ?_
          obtain ⟨r_33, hc_34, hf⟩ := bind_inv hf
          refine aftPI (runV C hE hA hH [0, 1, 2, 3, 4, 5, 6, 7, 8, 9, 10, 11] nC_M_M_0_11 (sC_M_M_0_11 g ad G J) (kX6_brings l g ad _ G J x1 x3 r_33  hc_34) tw_11_16 tw_11_17 tw_11_18 tw_1_5 tw_11_19 hdX6_brings 0 rfl rfl rfl rfl ⟨Nat.le_of_ble_eq_true rfl, Nat.le_of_ble_eq_true rfl⟩ rfl hl.1 (rest := []) rfl (Nat.le_of_ble_eq_true rfl) dX6_can_41 ⟨Nat.zero_le _, Nat.zero_le _⟩) ?_
          refine lv_goto (tgt := 53) hx hb dX6_can_44 (by decide) ?_
          exact j_53 r_33 G _ _ ls hf hH (lv_sub hl [] rfl)
      · have hf := if_p hf c_29
        exact j_27 G _ _ ls hf hH (lv_sub hl [0] rfl)
def fX6_turnsOn (x1 : Int32) (x2 : Int32) (G : M2) (J : J2) : Option (Int32 × M2) := (fX6_its x1 (1 : Int32) G J).bind (fun (r_8 : Int32) => (fX6_puts x1 (1 : Int32) x2 G J).bind (fun (G_10 : M2) => grd (inb (0 : Int32) 75) ((fX6_puts x1 (2 : Int32) (G_10 1 (0 : Int32).toNatClampNeg) G_10 J).bind (fun (G_13 : M2) => some (r_8, G_13)))))
def rmX6_turnsOn : Room := { frames := 1, cells := 0, slots := 0, locals := 23 }
theorem hdX6_turnsOn : yX6_turnsOn.cls = yX6_turnsOn.cls ∧ yX6_turnsOn.cls ≠ "java/lang/invoke/MethodHandle" ∧ yX6_turnsOn.cls ≠ "java/lang/invoke/VarHandle" ∧ (parseMethodDescriptor yX6_turnsOn.desc).map (fun d => d.parameters.length) = some 2 := by decide +kernel
set_option maxHeartbeats 4000000 in
set_option maxRecDepth 100000 in
theorem kX6_turnsOn (l : Launch) (g : Gl) (ad : Nat → Nat) (sz : Nat) (G : M2) (J : J2) (x1 : Int32) (x2 : Int32) (r : Int32) (G' : M2)  (hf : fX6_turnsOn x1 x2 G J = some (r, G')) : MetI l yX6_turnsOn (Cond.code yX6_turnsOn cX6_turnsOn 4 (some .int) :: wsL_law) rmX6_turnsOn [.ref (ad 0), .int x1, .int x2] g (wM g ad G J) sz r (wM g ad G' J) := by
  refine openI (by decide +kernel) (Nat.le_of_ble_eq_true rfl) ?_
  intro p e s m args below meth c A C hE hA hH ls hl
  have hl : lv_has ls 4 [(0, .ref (ad 0)), (1, .int x1), (2, .int x2)] := hl
  have C : Cx p s m args meth c cX6_turnsOn 4 (some .int) RX6 := C
  obtain ⟨hx, hb, hml, hown, hT, hr, hlk⟩ := id C
  rw [fX6_turnsOn] at hf
  refine lv_aload_n hx hb dX6_turnsOn_0 rfl (lv_at hl 0 rfl) ?_
  refine lv_iload_n hx hb dX6_turnsOn_1 rfl (lv_at hl 1 rfl) ?_
  refine lv_iconst (v := 1) hx hb dX6_turnsOn_2 (by decide) ?_
  obtain ⟨r_8, hc_9, hf⟩ := bind_inv hf
  refine aftPI (runV C hE hA hH [0, 1, 2, 3, 4, 5, 6, 7, 8, 9, 10, 11] nC_M_M_0_11 (sC_M_M_0_11 g ad G J) (kX6_its l g ad _ G J x1 (1 : Int32) r_8  hc_9) tw_10_14 tw_10_15 tw_10_16 tw_1_5 tw_10_17 hdX6_its 0 rfl rfl rfl rfl ⟨Nat.le_of_ble_eq_true rfl, Nat.le_of_ble_eq_true rfl⟩ rfl hl.1 (rest := []) rfl (Nat.le_of_ble_eq_true rfl) dX6_turnsOn_3 ⟨Nat.zero_le _, Nat.zero_le _⟩) ?_
  refine lv_istore_n (lv' := [(3, .int r_8), (0, .ref (ad 0)), (1, .int x1), (2, .int x2)]) hx hb dX6_turnsOn_6 rfl hl (by decide) rfl (fun ls hl => ?_)
  refine lv_aload_n hx hb dX6_turnsOn_7 rfl (lv_at hl 1 rfl) ?_
  refine lv_iload_n hx hb dX6_turnsOn_8 rfl (lv_at hl 2 rfl) ?_
  refine lv_iconst (v := 1) hx hb dX6_turnsOn_9 (by decide) ?_
  refine lv_iload_n hx hb dX6_turnsOn_10 rfl (lv_at hl 3 rfl) ?_
  obtain ⟨G_10, hc_11, hf⟩ := bind_inv hf
  refine aftV (runV C hE hA hH [0, 1, 2, 3, 4, 5, 6, 7, 8, 9, 10, 11] nC_M_M_0_11 (sC_M_M_0_11 g ad G J) (kX6_puts l g ad _ G J x1 (1 : Int32) x2 G_10  hc_11) tw_8_17 tw_8_18 tw_8_19 tw_1_5 tw_8_20 hdX6_puts 0 rfl rfl rfl rfl ⟨Nat.le_of_ble_eq_true rfl, Nat.le_of_ble_eq_true rfl⟩ rfl hl.1 (rest := []) rfl (Nat.le_of_ble_eq_true rfl) dX6_turnsOn_11 ⟨Nat.zero_le _, Nat.zero_le _⟩) hA hH [0, 1, 2, 3, 4, 5, 6, 7, 8, 9, 10, 11] [] (sC_M_M_0_11 g ad G J) (sR_M_M_0_11 g ad G J) nR_M_M_0_11 dj_M_M_0_11 [0, 1, 2, 3, 4, 5, 6, 7, 8, 9, 10, 11] nP_M_M_0_11 (sP_M_M_0_11 g ad G J G_10 J) (fun H locs hH => ?_)
  refine lv_aload_n hx hb dX6_turnsOn_14 rfl (lv_at hl 1 rfl) ?_
  refine lv_iload_n hx hb dX6_turnsOn_15 rfl (lv_at hl 2 rfl) ?_
  refine lv_iconst (v := 2) hx hb dX6_turnsOn_16 (by decide) ?_
  refine lv_aload_n hx hb dX6_turnsOn_17 rfl (lv_at hl 1 rfl) ?_
  refine gf_RX6_7 C hE hH 0 rfl rfl dX6_turnsOn_18 ?_
  refine lv_iconst (v := 0) hx hb dX6_turnsOn_21 (by decide) ?_
  obtain ⟨hi_12, hf⟩ := grd_inv hf
  refine xiald C hE hH 1 rfl hi_12 dX6_turnsOn_22 ?_
  obtain ⟨G_13, hc_14, hf⟩ := bind_inv hf
  refine aftV (runV C hE hA hH [0, 1, 2, 3, 4, 5, 6, 7, 8, 9, 10, 11] nC_M_M_0_11 (sC_M_M_0_11 g ad G_10 J) (kX6_puts l g ad _ G_10 J x1 (2 : Int32) (G_10 1 (0 : Int32).toNatClampNeg) G_13  hc_14) tw_8_17 tw_8_18 tw_8_19 tw_1_5 tw_8_20 hdX6_puts 0 rfl rfl rfl rfl ⟨Nat.le_of_ble_eq_true rfl, Nat.le_of_ble_eq_true rfl⟩ rfl hl.1 (rest := []) rfl (Nat.le_of_ble_eq_true rfl) dX6_turnsOn_23 ⟨Nat.zero_le _, Nat.zero_le _⟩) hA hH [0, 1, 2, 3, 4, 5, 6, 7, 8, 9, 10, 11] [] (sC_M_M_0_11 g ad G_10 J) (sR_M_M_0_11 g ad G_10 J) nR_M_M_0_11 dj_M_M_0_11 [0, 1, 2, 3, 4, 5, 6, 7, 8, 9, 10, 11] nP_M_M_0_11 (sP_M_M_0_11 g ad G_10 J G_13 J) (fun H locs hH => ?_)
  refine lv_iload_n hx hb dX6_turnsOn_26 rfl (lv_at hl 0 rfl) ?_
  have hf := Option.some.inj hf
  obtain ⟨h1, h2⟩ := Prod.mk.inj hf
  subst h1
  subst h2
  exact retI C hH rfl dX6_turnsOn_27
def fX6_set_c68  (z0 : Int32) (G : M2) (J : J2) : Option (Int32 × M2) := some (z0, G)
def fX6_set_c102  (z0 : Int32) (G : M2) (J : J2) : Option (Int32 × M2) := some (z0, G)
def fX6_set_c141  (z0 : Int32) (G : M2) (J : J2) : Option (Int32 × M2) := some (z0, G)
def fX6_set_c135  (G : M2) (J : J2) : Option (Int32 × M2) := bind2 (fX6_finds (-1000000001 : Int32) G J) (fun (r_37 : Int32) (G_38 : M2) => fX6_set_c141  r_37 G_38 J)
def fX6_set (x1 : Int32) (x2 : Int32) (x3 : Int32) (G : M2) (J : J2) : Option (Int32 × M2) := (fX6_isOne x1 G J).bind (fun (r_40 : Int32) => (if r_40 = 0 then bind2 (fX6_finds (-1000000001 : Int32) G J) (fun (r_70 : Int32) (G_71 : M2) => some (r_70, G_71)) else (if x2 = 1 then (fX6_in x3 (0 : Int32) (1 : Int32)).bind (fun (r_44 : Int32) => (if r_44 = 0 then bind2 (fX6_finds (-1000000001 : Int32) G J) (fun (r_47 : Int32) (G_48 : M2) => fX6_set_c68  r_47 G_48 J) else bind2 (fX6_turnsOn x1 x3 G J) (fun (r_50 : Int32) (G_51 : M2) => fX6_set_c68  r_50 G_51 J))) else (if x2 = 3 then (fX6_in x3 (0 : Int32) (511 : Int32)).bind (fun (r_54 : Int32) => (if r_54 = 0 then bind2 (fX6_finds (-1000000001 : Int32) G J) (fun (r_57 : Int32) (G_58 : M2) => fX6_set_c102  r_57 G_58 J) else bind2 (fX6_becomes (((35 : Int32) + ((5 : Int32) * x1)) + (3 : Int32)) x3 G J) (fun (r_60 : Int32) (G_61 : M2) => fX6_set_c102  r_60 G_61 J))) else (if x2 = (4 : Int32) then (fX6_in x3 (0 : Int32) (9999 : Int32)).bind (fun (r_64 : Int32) => (if r_64 = 0 then fX6_set_c135  G J else bind2 (fX6_becomes (((35 : Int32) + ((5 : Int32) * x1)) + (4 : Int32)) x3 G J) (fun (r_67 : Int32) (G_68 : M2) => fX6_set_c141  r_67 G_68 J))) else fX6_set_c135  G J)))))
def rmX6_set : Room := { frames := 2, cells := 0, slots := 0, locals := 46 }
theorem hdX6_set : yX6_set.cls = yX6_set.cls ∧ yX6_set.cls ≠ "java/lang/invoke/MethodHandle" ∧ yX6_set.cls ≠ "java/lang/invoke/VarHandle" ∧ (parseMethodDescriptor yX6_set.desc).map (fun d => d.parameters.length) = some 3 := by decide +kernel
set_option maxHeartbeats 4000000 in
set_option maxRecDepth 100000 in
theorem kX6_set (l : Launch) (g : Gl) (ad : Nat → Nat) (sz : Nat) (G : M2) (J : J2) (x1 : Int32) (x2 : Int32) (x3 : Int32) (r : Int32) (G' : M2)  (hf : fX6_set x1 x2 x3 G J = some (r, G')) : MetI l yX6_set (Cond.code yX6_set cX6_set 4 (some .int) :: wsL_law) rmX6_set [.ref (ad 0), .int x1, .int x2, .int x3] g (wM g ad G J) sz r (wM g ad G' J) := by
  refine openI (by decide +kernel) (Nat.le_of_ble_eq_true rfl) ?_
  intro p e s m args below meth c A C hE hA hH ls hl
  have hl : lv_has ls 4 [(0, .ref (ad 0)), (1, .int x1), (2, .int x2), (3, .int x3)] := hl
  have C : Cx p s m args meth c cX6_set 4 (some .int) RX6 := C
  obtain ⟨hx, hb, hml, hown, hT, hr, hlk⟩ := id C
  rw [fX6_set] at hf
  have j_68 : ∀ (z0 : Int32) (G : M2) (H : Heap) (locs : List Loc) (ls : Array Slot), fX6_set_c68  z0 G J = some (r, G') → Hp g A s H locs (wM g ad G J) → lv_has ls 4 [] → W p l e rmX6_set s m args below meth c H locs 0 0 (QI g A below args s r (wM g ad G' J)) (F0 m 68 ls [.int z0]) := by
    intro z0 G H locs  ls hf hH hl
    rw [fX6_set_c68] at hf
    have hf := Option.some.inj hf
    obtain ⟨h1, h2⟩ := Prod.mk.inj hf
    subst h1
    subst h2
    exact retI C hH rfl dX6_set_68
  have j_102 : ∀ (z0 : Int32) (G : M2) (H : Heap) (locs : List Loc) (ls : Array Slot), fX6_set_c102  z0 G J = some (r, G') → Hp g A s H locs (wM g ad G J) → lv_has ls 4 [] → W p l e rmX6_set s m args below meth c H locs 0 0 (QI g A below args s r (wM g ad G' J)) (F0 m 102 ls [.int z0]) := by
    intro z0 G H locs  ls hf hH hl
    rw [fX6_set_c102] at hf
    have hf := Option.some.inj hf
    obtain ⟨h1, h2⟩ := Prod.mk.inj hf
    subst h1
    subst h2
    exact retI C hH rfl dX6_set_102
  have j_141 : ∀ (z0 : Int32) (G : M2) (H : Heap) (locs : List Loc) (ls : Array Slot), fX6_set_c141  z0 G J = some (r, G') → Hp g A s H locs (wM g ad G J) → lv_has ls 4 [] → W p l e rmX6_set s m args below meth c H locs 0 0 (QI g A below args s r (wM g ad G' J)) (F0 m 141 ls [.int z0]) := by
    intro z0 G H locs  ls hf hH hl
    rw [fX6_set_c141] at hf
    have hf := Option.some.inj hf
    obtain ⟨h1, h2⟩ := Prod.mk.inj hf
    subst h1
    subst h2
    exact retI C hH rfl dX6_set_141
  have j_135 : ∀ (G : M2) (H : Heap) (locs : List Loc) (ls : Array Slot), fX6_set_c135  G J = some (r, G') → Hp g A s H locs (wM g ad G J) → lv_has ls 4 [(0, .ref (ad 0))] → W p l e rmX6_set s m args below meth c H locs 0 0 (QI g A below args s r (wM g ad G' J)) (F0 m 135 ls []) := by
    intro G H locs  ls hf hH hl
    rw [fX6_set_c135] at hf
    refine lv_aload_n hx hb dX6_set_135 rfl (lv_at hl 0 rfl) ?_
    refine lv_ldc hx hb hown (hT _ tw_5_1) dX6_set_136 ?_
    obtain ⟨r_37, G_38, hc_39, hf⟩ := bind2_inv hf
    refine aftI (runV C hE hA hH [0, 1, 2, 3, 4, 5, 6, 7, 8, 9, 10, 11] nC_M_M_0_11 (sC_M_M_0_11 g ad G J) (kX6_finds l g ad _ G J (-1000000001 : Int32) r_37 G_38  hc_39) tw_5_9 tw_5_10 tw_5_11 tw_1_5 tw_5_12 hdX6_finds 0 rfl rfl rfl rfl ⟨Nat.le_of_ble_eq_true rfl, Nat.le_of_ble_eq_true rfl⟩ rfl hl.1 (rest := []) rfl (Nat.le_of_ble_eq_true rfl) dX6_set_138 ⟨Nat.zero_le _, Nat.zero_le _⟩) hA hH [0, 1, 2, 3, 4, 5, 6, 7, 8, 9, 10, 11] [] (sC_M_M_0_11 g ad G J) (sR_M_M_0_11 g ad G J) nR_M_M_0_11 dj_M_M_0_11 [0, 1, 2, 3, 4, 5, 6, 7, 8, 9, 10, 11] nP_M_M_0_11 (sP_M_M_0_11 g ad G J G_38 J) (fun H locs hH => ?_)
    exact j_141 r_37 G_38 _ _ ls hf hH (lv_sub hl [] rfl)
  refine lv_aload_n hx hb dX6_set_0 rfl (lv_at hl 0 rfl) ?_
  refine lv_iload_n hx hb dX6_set_1 rfl (lv_at hl 1 rfl) ?_
  obtain ⟨r_40, hc_41, hf⟩ := bind_inv hf
  refine aftPI (runV C hE hA hH [0, 1, 2, 3, 4, 5, 6, 7, 8, 9, 10, 11] nC_M_M_0_11 (sC_M_M_0_11 g ad G J) (kX6_isOne l g ad _ G J x1 r_40  hc_41) tw_10_6 tw_10_7 tw_10_8 tw_1_5 tw_10_9 hdX6_isOne 0 rfl rfl rfl rfl ⟨Nat.le_of_ble_eq_true rfl, Nat.le_of_ble_eq_true rfl⟩ rfl hl.1 (rest := []) rfl (Nat.le_of_ble_eq_true rfl) dX6_set_2 ⟨Nat.zero_le _, Nat.zero_le _⟩) ?_
  refine lv_if_ne (tgt := 15) hx hb dX6_set_5 (by decide) (fun c_42 => ?_) (fun c_42 => ?_)
  · have hf := if_n hf c_42
    refine lv_iload_n hx hb dX6_set_15 rfl (lv_at hl 2 rfl) ?_
    by_cases c_43 : x2 = 1
    · have hf := if_p hf c_43
      refine lv_lookup (tgt := 44) (off := 28) hx hb dX6_set_16 (by decide) (by rw [c_43]; try rfl) (by decide) ?_
      refine lv_iload_n hx hb dX6_set_44 rfl (lv_at hl 3 rfl) ?_
      refine lv_iconst (v := 0) hx hb dX6_set_45 (by decide) ?_
      refine lv_iconst (v := 1) hx hb dX6_set_46 (by decide) ?_
      obtain ⟨r_44, hc_45, hf⟩ := bind_inv hf
      refine aftPI (runS C hE hA hH [] rfl rfl (kX6_in l g ad _ x3 (0 : Int32) (1 : Int32) r_44  hc_45) tw_5_2 tw_5_3 tw_1_5 tw_5_4 hdX6_in rfl rfl ⟨Nat.le_of_ble_eq_true rfl, Nat.le_of_ble_eq_true rfl⟩ rfl hl.1 (rest := []) rfl (Nat.le_of_ble_eq_true rfl) dX6_set_47 ⟨Nat.zero_le _, Nat.zero_le _⟩) ?_
      refine lv_if_eq (tgt := 62) hx hb dX6_set_50 (by decide) (fun c_46 => ?_) (fun c_46 => ?_)
      · have hf := if_p hf c_46
        refine lv_aload_n hx hb dX6_set_62 rfl (lv_at hl 0 rfl) ?_
        refine lv_ldc hx hb hown (hT _ tw_5_1) dX6_set_63 ?_
        obtain ⟨r_47, G_48, hc_49, hf⟩ := bind2_inv hf
        refine aftI (runV C hE hA hH [0, 1, 2, 3, 4, 5, 6, 7, 8, 9, 10, 11] nC_M_M_0_11 (sC_M_M_0_11 g ad G J) (kX6_finds l g ad _ G J (-1000000001 : Int32) r_47 G_48  hc_49) tw_5_9 tw_5_10 tw_5_11 tw_1_5 tw_5_12 hdX6_finds 0 rfl rfl rfl rfl ⟨Nat.le_of_ble_eq_true rfl, Nat.le_of_ble_eq_true rfl⟩ rfl hl.1 (rest := []) rfl (Nat.le_of_ble_eq_true rfl) dX6_set_65 ⟨Nat.zero_le _, Nat.zero_le _⟩) hA hH [0, 1, 2, 3, 4, 5, 6, 7, 8, 9, 10, 11] [] (sC_M_M_0_11 g ad G J) (sR_M_M_0_11 g ad G J) nR_M_M_0_11 dj_M_M_0_11 [0, 1, 2, 3, 4, 5, 6, 7, 8, 9, 10, 11] nP_M_M_0_11 (sP_M_M_0_11 g ad G J G_48 J) (fun H locs hH => ?_)
        exact j_68 r_47 G_48 _ _ ls hf hH (lv_sub hl [] rfl)
      · have hf := if_n hf c_46
        refine lv_aload_n hx hb dX6_set_53 rfl (lv_at hl 0 rfl) ?_
        refine lv_iload_n hx hb dX6_set_54 rfl (lv_at hl 1 rfl) ?_
        refine lv_iload_n hx hb dX6_set_55 rfl (lv_at hl 3 rfl) ?_
        obtain ⟨r_50, G_51, hc_52, hf⟩ := bind2_inv hf
        refine aftI (runV C hE hA hH [0, 1, 2, 3, 4, 5, 6, 7, 8, 9, 10, 11] nC_M_M_0_11 (sC_M_M_0_11 g ad G J) (kX6_turnsOn l g ad _ G J x1 x3 r_50 G_51  hc_52) tw_12_20 tw_12_21 tw_12_22 tw_1_5 tw_12_23 hdX6_turnsOn 0 rfl rfl rfl rfl ⟨Nat.le_of_ble_eq_true rfl, Nat.le_of_ble_eq_true rfl⟩ rfl hl.1 (rest := []) rfl (Nat.le_of_ble_eq_true rfl) dX6_set_56 ⟨Nat.zero_le _, Nat.zero_le _⟩) hA hH [0, 1, 2, 3, 4, 5, 6, 7, 8, 9, 10, 11] [] (sC_M_M_0_11 g ad G J) (sR_M_M_0_11 g ad G J) nR_M_M_0_11 dj_M_M_0_11 [0, 1, 2, 3, 4, 5, 6, 7, 8, 9, 10, 11] nP_M_M_0_11 (sP_M_M_0_11 g ad G J G_51 J) (fun H locs hH => ?_)
        refine lv_goto (tgt := 68) hx hb dX6_set_59 (by decide) ?_
        exact j_68 r_50 G_51 _ _ ls hf hH (lv_sub hl [] rfl)
    have hf := if_n hf c_43
    by_cases c_53 : x2 = 3
    · have hf := if_p hf c_53
      refine lv_lookup (tgt := 69) (off := 53) hx hb dX6_set_16 (by decide) (by rw [c_53]; try rfl) (by decide) ?_
      refine lv_iload_n hx hb dX6_set_69 rfl (lv_at hl 3 rfl) ?_
      refine lv_iconst (v := 0) hx hb dX6_set_70 (by decide) ?_
      refine lv_sipush (v := 511) hx hb dX6_set_71 (by decide) ?_
      obtain ⟨r_54, hc_55, hf⟩ := bind_inv hf
      refine aftPI (runS C hE hA hH [] rfl rfl (kX6_in l g ad _ x3 (0 : Int32) (511 : Int32) r_54  hc_55) tw_5_2 tw_5_3 tw_1_5 tw_5_4 hdX6_in rfl rfl ⟨Nat.le_of_ble_eq_true rfl, Nat.le_of_ble_eq_true rfl⟩ rfl hl.1 (rest := []) rfl (Nat.le_of_ble_eq_true rfl) dX6_set_74 ⟨Nat.zero_le _, Nat.zero_le _⟩) ?_
      refine lv_if_eq (tgt := 96) hx hb dX6_set_77 (by decide) (fun c_56 => ?_) (fun c_56 => ?_)
      · have hf := if_p hf c_56
        refine lv_aload_n hx hb dX6_set_96 rfl (lv_at hl 0 rfl) ?_
        refine lv_ldc hx hb hown (hT _ tw_5_1) dX6_set_97 ?_
        obtain ⟨r_57, G_58, hc_59, hf⟩ := bind2_inv hf
        refine aftI (runV C hE hA hH [0, 1, 2, 3, 4, 5, 6, 7, 8, 9, 10, 11] nC_M_M_0_11 (sC_M_M_0_11 g ad G J) (kX6_finds l g ad _ G J (-1000000001 : Int32) r_57 G_58  hc_59) tw_5_9 tw_5_10 tw_5_11 tw_1_5 tw_5_12 hdX6_finds 0 rfl rfl rfl rfl ⟨Nat.le_of_ble_eq_true rfl, Nat.le_of_ble_eq_true rfl⟩ rfl hl.1 (rest := []) rfl (Nat.le_of_ble_eq_true rfl) dX6_set_99 ⟨Nat.zero_le _, Nat.zero_le _⟩) hA hH [0, 1, 2, 3, 4, 5, 6, 7, 8, 9, 10, 11] [] (sC_M_M_0_11 g ad G J) (sR_M_M_0_11 g ad G J) nR_M_M_0_11 dj_M_M_0_11 [0, 1, 2, 3, 4, 5, 6, 7, 8, 9, 10, 11] nP_M_M_0_11 (sP_M_M_0_11 g ad G J G_58 J) (fun H locs hH => ?_)
        exact j_102 r_57 G_58 _ _ ls hf hH (lv_sub hl [] rfl)
      · have hf := if_n hf c_56
        refine lv_aload_n hx hb dX6_set_80 rfl (lv_at hl 0 rfl) ?_
        refine lv_bipush (v := 35) hx hb dX6_set_81 (by decide) ?_
        refine lv_iconst (v := 5) hx hb dX6_set_83 (by decide) ?_
        refine lv_iload_n hx hb dX6_set_84 rfl (lv_at hl 1 rfl) ?_
        refine lv_imul hx hb dX6_set_85 ?_
        refine lv_iadd hx hb dX6_set_86 ?_
        refine lv_iconst (v := 3) hx hb dX6_set_87 (by decide) ?_
        refine lv_iadd hx hb dX6_set_88 ?_
        refine lv_iload_n hx hb dX6_set_89 rfl (lv_at hl 3 rfl) ?_
        obtain ⟨r_60, G_61, hc_62, hf⟩ := bind2_inv hf
        refine aftI (runV C hE hA hH [0, 1, 2, 3, 4, 5, 6, 7, 8, 9, 10, 11] nC_M_M_0_11 (sC_M_M_0_11 g ad G J) (kX6_becomes l g ad _ G J (((35 : Int32) + ((5 : Int32) * x1)) + (3 : Int32)) x3 r_60 G_61  hc_62) tw_5_5 tw_5_6 tw_5_7 tw_1_5 tw_5_8 hdX6_becomes 0 rfl rfl rfl rfl ⟨Nat.le_of_ble_eq_true rfl, Nat.le_of_ble_eq_true rfl⟩ rfl hl.1 (rest := []) rfl (Nat.le_of_ble_eq_true rfl) dX6_set_90 ⟨Nat.zero_le _, Nat.zero_le _⟩) hA hH [0, 1, 2, 3, 4, 5, 6, 7, 8, 9, 10, 11] [] (sC_M_M_0_11 g ad G J) (sR_M_M_0_11 g ad G J) nR_M_M_0_11 dj_M_M_0_11 [0, 1, 2, 3, 4, 5, 6, 7, 8, 9, 10, 11] nP_M_M_0_11 (sP_M_M_0_11 g ad G J G_61 J) (fun H locs hH => ?_)
        refine lv_goto (tgt := 102) hx hb dX6_set_93 (by decide) ?_
        exact j_102 r_60 G_61 _ _ ls hf hH (lv_sub hl [] rfl)
    have hf := if_n hf c_53
    refine lv_lookup (tgt := 103) (off := 87) hx hb dX6_set_16 (by decide) (by rw [lv_osw c_43 (by decide), lv_osw c_53 (by decide)]; try rfl) (by decide) ?_
    refine lv_iload_n hx hb dX6_set_103 rfl (lv_at hl 2 rfl) ?_
    refine lv_iconst (v := 4) hx hb dX6_set_104 (by decide) ?_
    refine lv_icmp_ne (tgt := 135) hx hb dX6_set_105 (by decide) (fun c_63 => ?_) (fun c_63 => ?_)
    · have hf := if_n hf c_63
      exact j_135 G _ _ ls hf hH (lv_sub hl [0] rfl)
    · have hf := if_p hf c_63
      refine lv_iload_n hx hb dX6_set_108 rfl (lv_at hl 3 rfl) ?_
      refine lv_iconst (v := 0) hx hb dX6_set_109 (by decide) ?_
      refine lv_sipush (v := 9999) hx hb dX6_set_110 (by decide) ?_
      obtain ⟨r_64, hc_65, hf⟩ := bind_inv hf
      refine aftPI (runS C hE hA hH [] rfl rfl (kX6_in l g ad _ x3 (0 : Int32) (9999 : Int32) r_64  hc_65) tw_5_2 tw_5_3 tw_1_5 tw_5_4 hdX6_in rfl rfl ⟨Nat.le_of_ble_eq_true rfl, Nat.le_of_ble_eq_true rfl⟩ rfl hl.1 (rest := []) rfl (Nat.le_of_ble_eq_true rfl) dX6_set_113 ⟨Nat.zero_le _, Nat.zero_le _⟩) ?_
      refine lv_if_eq (tgt := 135) hx hb dX6_set_116 (by decide) (fun c_66 => ?_) (fun c_66 => ?_)
      · have hf := if_p hf c_66
        exact j_135 G _ _ ls hf hH (lv_sub hl [0] rfl)
      · have hf := if_n hf c_66
        refine lv_aload_n hx hb dX6_set_119 rfl (lv_at hl 0 rfl) ?_
        refine lv_bipush (v := 35) hx hb dX6_set_120 (by decide) ?_
        refine lv_iconst (v := 5) hx hb dX6_set_122 (by decide) ?_
        refine lv_iload_n hx hb dX6_set_123 rfl (lv_at hl 1 rfl) ?_
        refine lv_imul hx hb dX6_set_124 ?_
        refine lv_iadd hx hb dX6_set_125 ?_
        refine lv_iconst (v := 4) hx hb dX6_set_126 (by decide) ?_
        refine lv_iadd hx hb dX6_set_127 ?_
        refine lv_iload_n hx hb dX6_set_128 rfl (lv_at hl 3 rfl) ?_
        obtain ⟨r_67, G_68, hc_69, hf⟩ := bind2_inv hf
        refine aftI (runV C hE hA hH [0, 1, 2, 3, 4, 5, 6, 7, 8, 9, 10, 11] nC_M_M_0_11 (sC_M_M_0_11 g ad G J) (kX6_becomes l g ad _ G J (((35 : Int32) + ((5 : Int32) * x1)) + (4 : Int32)) x3 r_67 G_68  hc_69) tw_5_5 tw_5_6 tw_5_7 tw_1_5 tw_5_8 hdX6_becomes 0 rfl rfl rfl rfl ⟨Nat.le_of_ble_eq_true rfl, Nat.le_of_ble_eq_true rfl⟩ rfl hl.1 (rest := []) rfl (Nat.le_of_ble_eq_true rfl) dX6_set_129 ⟨Nat.zero_le _, Nat.zero_le _⟩) hA hH [0, 1, 2, 3, 4, 5, 6, 7, 8, 9, 10, 11] [] (sC_M_M_0_11 g ad G J) (sR_M_M_0_11 g ad G J) nR_M_M_0_11 dj_M_M_0_11 [0, 1, 2, 3, 4, 5, 6, 7, 8, 9, 10, 11] nP_M_M_0_11 (sP_M_M_0_11 g ad G J G_68 J) (fun H locs hH => ?_)
        refine lv_goto (tgt := 141) hx hb dX6_set_132 (by decide) ?_
        exact j_141 r_67 G_68 _ _ ls hf hH (lv_sub hl [] rfl)
  · have hf := if_p hf c_42
    refine lv_aload_n hx hb dX6_set_8 rfl (lv_at hl 0 rfl) ?_
    refine lv_ldc hx hb hown (hT _ tw_5_1) dX6_set_9 ?_
    obtain ⟨r_70, G_71, hc_72, hf⟩ := bind2_inv hf
    refine aftI (runV C hE hA hH [0, 1, 2, 3, 4, 5, 6, 7, 8, 9, 10, 11] nC_M_M_0_11 (sC_M_M_0_11 g ad G J) (kX6_finds l g ad _ G J (-1000000001 : Int32) r_70 G_71  hc_72) tw_5_9 tw_5_10 tw_5_11 tw_1_5 tw_5_12 hdX6_finds 0 rfl rfl rfl rfl ⟨Nat.le_of_ble_eq_true rfl, Nat.le_of_ble_eq_true rfl⟩ rfl hl.1 (rest := []) rfl (Nat.le_of_ble_eq_true rfl) dX6_set_11 ⟨Nat.zero_le _, Nat.zero_le _⟩) hA hH [0, 1, 2, 3, 4, 5, 6, 7, 8, 9, 10, 11] [] (sC_M_M_0_11 g ad G J) (sR_M_M_0_11 g ad G J) nR_M_M_0_11 dj_M_M_0_11 [0, 1, 2, 3, 4, 5, 6, 7, 8, 9, 10, 11] nP_M_M_0_11 (sP_M_M_0_11 g ad G J G_71 J) (fun H locs hH => ?_)
    have hf := Option.some.inj hf
    obtain ⟨h1, h2⟩ := Prod.mk.inj hf
    subst h1
    subst h2
    exact retI C hH rfl dX6_set_14
def fX6_turn_c35  (z0 : Int32) (G : M2) (J : J2) : Option (Int32 × M2) := some (z0, G)
def fX6_turn_c29  (G : M2) (J : J2) : Option (Int32 × M2) := bind2 (fX6_finds (-1000000001 : Int32) G J) (fun (r_13 : Int32) (G_14 : M2) => fX6_turn_c35  r_13 G_14 J)
def fX6_turn (x1 : Int32) (x2 : Int32) (G : M2) (J : J2) : Option (Int32 × M2) := (fX6_isOne x1 G J).bind (fun (r_16 : Int32) => (if r_16 = 0 then fX6_turn_c29  G J else (fX6_isKind x2).bind (fun (r_19 : Int32) => (if r_19 = 0 then fX6_turn_c29  G J else bind2 (fX6_becomes ((35 : Int32) + ((5 : Int32) * x1)) x2 G J) (fun (r_22 : Int32) (G_23 : M2) => fX6_turn_c35  r_22 G_23 J)))))
def rmX6_turn : Room := { frames := 2, cells := 0, slots := 0, locals := 43 }
theorem hdX6_turn : yX6_turn.cls = yX6_turn.cls ∧ yX6_turn.cls ≠ "java/lang/invoke/MethodHandle" ∧ yX6_turn.cls ≠ "java/lang/invoke/VarHandle" ∧ (parseMethodDescriptor yX6_turn.desc).map (fun d => d.parameters.length) = some 2 := by decide +kernel
set_option maxHeartbeats 4000000 in
set_option maxRecDepth 100000 in
theorem kX6_turn (l : Launch) (g : Gl) (ad : Nat → Nat) (sz : Nat) (G : M2) (J : J2) (x1 : Int32) (x2 : Int32) (r : Int32) (G' : M2)  (hf : fX6_turn x1 x2 G J = some (r, G')) : MetI l yX6_turn (Cond.code yX6_turn cX6_turn 3 (some .int) :: wsL_law) rmX6_turn [.ref (ad 0), .int x1, .int x2] g (wM g ad G J) sz r (wM g ad G' J) := by
  refine openI (by decide +kernel) (Nat.le_of_ble_eq_true rfl) ?_
  intro p e s m args below meth c A C hE hA hH ls hl
  have hl : lv_has ls 3 [(0, .ref (ad 0)), (1, .int x1), (2, .int x2)] := hl
  have C : Cx p s m args meth c cX6_turn 3 (some .int) RX6 := C
  obtain ⟨hx, hb, hml, hown, hT, hr, hlk⟩ := id C
  rw [fX6_turn] at hf
  have j_35 : ∀ (z0 : Int32) (G : M2) (H : Heap) (locs : List Loc) (ls : Array Slot), fX6_turn_c35  z0 G J = some (r, G') → Hp g A s H locs (wM g ad G J) → lv_has ls 3 [] → W p l e rmX6_turn s m args below meth c H locs 0 0 (QI g A below args s r (wM g ad G' J)) (F0 m 35 ls [.int z0]) := by
    intro z0 G H locs  ls hf hH hl
    rw [fX6_turn_c35] at hf
    have hf := Option.some.inj hf
    obtain ⟨h1, h2⟩ := Prod.mk.inj hf
    subst h1
    subst h2
    exact retI C hH rfl dX6_turn_35
  have j_29 : ∀ (G : M2) (H : Heap) (locs : List Loc) (ls : Array Slot), fX6_turn_c29  G J = some (r, G') → Hp g A s H locs (wM g ad G J) → lv_has ls 3 [(0, .ref (ad 0))] → W p l e rmX6_turn s m args below meth c H locs 0 0 (QI g A below args s r (wM g ad G' J)) (F0 m 29 ls []) := by
    intro G H locs  ls hf hH hl
    rw [fX6_turn_c29] at hf
    refine lv_aload_n hx hb dX6_turn_29 rfl (lv_at hl 0 rfl) ?_
    refine lv_ldc hx hb hown (hT _ tw_5_1) dX6_turn_30 ?_
    obtain ⟨r_13, G_14, hc_15, hf⟩ := bind2_inv hf
    refine aftI (runV C hE hA hH [0, 1, 2, 3, 4, 5, 6, 7, 8, 9, 10, 11] nC_M_M_0_11 (sC_M_M_0_11 g ad G J) (kX6_finds l g ad _ G J (-1000000001 : Int32) r_13 G_14  hc_15) tw_5_9 tw_5_10 tw_5_11 tw_1_5 tw_5_12 hdX6_finds 0 rfl rfl rfl rfl ⟨Nat.le_of_ble_eq_true rfl, Nat.le_of_ble_eq_true rfl⟩ rfl hl.1 (rest := []) rfl (Nat.le_of_ble_eq_true rfl) dX6_turn_32 ⟨Nat.zero_le _, Nat.zero_le _⟩) hA hH [0, 1, 2, 3, 4, 5, 6, 7, 8, 9, 10, 11] [] (sC_M_M_0_11 g ad G J) (sR_M_M_0_11 g ad G J) nR_M_M_0_11 dj_M_M_0_11 [0, 1, 2, 3, 4, 5, 6, 7, 8, 9, 10, 11] nP_M_M_0_11 (sP_M_M_0_11 g ad G J G_14 J) (fun H locs hH => ?_)
    exact j_35 r_13 G_14 _ _ ls hf hH (lv_sub hl [] rfl)
  refine lv_aload_n hx hb dX6_turn_0 rfl (lv_at hl 0 rfl) ?_
  refine lv_iload_n hx hb dX6_turn_1 rfl (lv_at hl 1 rfl) ?_
  obtain ⟨r_16, hc_17, hf⟩ := bind_inv hf
  refine aftPI (runV C hE hA hH [0, 1, 2, 3, 4, 5, 6, 7, 8, 9, 10, 11] nC_M_M_0_11 (sC_M_M_0_11 g ad G J) (kX6_isOne l g ad _ G J x1 r_16  hc_17) tw_10_6 tw_10_7 tw_10_8 tw_1_5 tw_10_9 hdX6_isOne 0 rfl rfl rfl rfl ⟨Nat.le_of_ble_eq_true rfl, Nat.le_of_ble_eq_true rfl⟩ rfl hl.1 (rest := []) rfl (Nat.le_of_ble_eq_true rfl) dX6_turn_2 ⟨Nat.zero_le _, Nat.zero_le _⟩) ?_
  refine lv_if_eq (tgt := 29) hx hb dX6_turn_5 (by decide) (fun c_18 => ?_) (fun c_18 => ?_)
  · have hf := if_p hf c_18
    exact j_29 G _ _ ls hf hH (lv_sub hl [0] rfl)
  · have hf := if_n hf c_18
    refine lv_iload_n hx hb dX6_turn_8 rfl (lv_at hl 2 rfl) ?_
    obtain ⟨r_19, hc_20, hf⟩ := bind_inv hf
    refine aftPI (runS C hE hA hH [] rfl rfl (kX6_isKind l g ad _ x2 r_19  hc_20) tw_8_10 tw_8_11 tw_1_5 tw_8_12 hdX6_isKind rfl rfl ⟨Nat.le_of_ble_eq_true rfl, Nat.le_of_ble_eq_true rfl⟩ rfl hl.1 (rest := []) rfl (Nat.le_of_ble_eq_true rfl) dX6_turn_9 ⟨Nat.zero_le _, Nat.zero_le _⟩) ?_
    refine lv_if_eq (tgt := 29) hx hb dX6_turn_12 (by decide) (fun c_21 => ?_) (fun c_21 => ?_)
    · have hf := if_p hf c_21
      exact j_29 G _ _ ls hf hH (lv_sub hl [0] rfl)
    · have hf := if_n hf c_21
      refine lv_aload_n hx hb dX6_turn_15 rfl (lv_at hl 0 rfl) ?_
      refine lv_bipush (v := 35) hx hb dX6_turn_16 (by decide) ?_
      refine lv_iconst (v := 5) hx hb dX6_turn_18 (by decide) ?_
      refine lv_iload_n hx hb dX6_turn_19 rfl (lv_at hl 1 rfl) ?_
      refine lv_imul hx hb dX6_turn_20 ?_
      refine lv_iadd hx hb dX6_turn_21 ?_
      refine lv_iload_n hx hb dX6_turn_22 rfl (lv_at hl 2 rfl) ?_
      obtain ⟨r_22, G_23, hc_24, hf⟩ := bind2_inv hf
      refine aftI (runV C hE hA hH [0, 1, 2, 3, 4, 5, 6, 7, 8, 9, 10, 11] nC_M_M_0_11 (sC_M_M_0_11 g ad G J) (kX6_becomes l g ad _ G J ((35 : Int32) + ((5 : Int32) * x1)) x2 r_22 G_23  hc_24) tw_5_5 tw_5_6 tw_5_7 tw_1_5 tw_5_8 hdX6_becomes 0 rfl rfl rfl rfl ⟨Nat.le_of_ble_eq_true rfl, Nat.le_of_ble_eq_true rfl⟩ rfl hl.1 (rest := []) rfl (Nat.le_of_ble_eq_true rfl) dX6_turn_23 ⟨Nat.zero_le _, Nat.zero_le _⟩) hA hH [0, 1, 2, 3, 4, 5, 6, 7, 8, 9, 10, 11] [] (sC_M_M_0_11 g ad G J) (sR_M_M_0_11 g ad G J) nR_M_M_0_11 dj_M_M_0_11 [0, 1, 2, 3, 4, 5, 6, 7, 8, 9, 10, 11] nP_M_M_0_11 (sP_M_M_0_11 g ad G J G_23 J) (fun H locs hH => ?_)
      refine lv_goto (tgt := 35) hx hb dX6_turn_26 (by decide) ?_
      exact j_35 r_22 G_23 _ _ ls hf hH (lv_sub hl [] rfl)
def fX6_as_c15  (G : M2) (J : J2) : Option (Int32 × M2) := bind2 (fX6_finds (-1000000001 : Int32) G J) (fun (r_24 : Int32) (G_25 : M2) => some (r_24, G_25))
def fX6_as_c85  (z0 : Int32) (G : M2) (J : J2) : Option (Int32 × M2) := some (z0, G)
def fX6_as_c63  (y1 : Int32) (z0 : Int32) (G : M2) (J : J2) : Option (Int32 × M2) := (if z0 = 0 then bind2 (fX6_finds (-1000000003 : Int32) G J) (fun (r_28 : Int32) (G_29 : M2) => fX6_as_c85  r_28 G_29 J) else (fX6_its y1 (3 : Int32) G J).bind (fun (r_31 : Int32) => fX6_as_c85  r_31 G J))
def fX6_as_c58  (y1 : Int32) (G : M2) (J : J2) : Option (Int32 × M2) := fX6_as_c63  y1 (1 : Int32) G J
def fX6_as_c62  (y1 : Int32) (G : M2) (J : J2) : Option (Int32 × M2) := fX6_as_c63  y1 (0 : Int32) G J
def fX6_as_c48  (y1 : Int32) (y2 : Int32) (y3 : Int32) (G : M2) (J : J2) : Option (Int32 × M2) := (if y2 = (2 : Int32) then (if y3 = (5 : Int32) then fX6_as_c58  y1 G J else fX6_as_c62  y1 G J) else fX6_as_c62  y1 G J)
def fX6_as (x1 : Int32) (x2 : Int32) (G : M2) (J : J2) : Option (Int32 × M2) := (fX6_isOne x1 G J).bind (fun (r_35 : Int32) => (if r_35 = 0 then fX6_as_c15  G J else (fX6_isKind x2).bind (fun (r_38 : Int32) => (if r_38 = 0 then fX6_as_c15  G J else (fX6_its x1 (0 : Int32) G J).bind (fun (r_41 : Int32) => (if x2 = 0 then fX6_as_c58  x1 G J else (if x2 = r_41 then fX6_as_c58  x1 G J else (if x2 = (1 : Int32) then (if r_41 = (4 : Int32) then fX6_as_c58  x1 G J else fX6_as_c48  x1 x2 r_41 G J) else fX6_as_c48  x1 x2 r_41 G J))))))))
def rmX6_as : Room := { frames := 2, cells := 0, slots := 0, locals := 43 }
theorem hdX6_as : yX6_as.cls = yX6_as.cls ∧ yX6_as.cls ≠ "java/lang/invoke/MethodHandle" ∧ yX6_as.cls ≠ "java/lang/invoke/VarHandle" ∧ (parseMethodDescriptor yX6_as.desc).map (fun d => d.parameters.length) = some 2 := by decide +kernel
set_option maxHeartbeats 4000000 in
set_option maxRecDepth 100000 in
theorem kX6_as (l : Launch) (g : Gl) (ad : Nat → Nat) (sz : Nat) (G : M2) (J : J2) (x1 : Int32) (x2 : Int32) (r : Int32) (G' : M2)  (hf : fX6_as x1 x2 G J = some (r, G')) : MetI l yX6_as (Cond.code yX6_as cX6_as 5 (some .int) :: wsL_law) rmX6_as [.ref (ad 0), .int x1, .int x2] g (wM g ad G J) sz r (wM g ad G' J) := by
  refine openI (by decide +kernel) (Nat.le_of_ble_eq_true rfl) ?_
  intro p e s m args below meth c A C hE hA hH ls hl
  have hl : lv_has ls 5 [(0, .ref (ad 0)), (1, .int x1), (2, .int x2)] := hl
  have C : Cx p s m args meth c cX6_as 5 (some .int) RX6 := C
  obtain ⟨hx, hb, hml, hown, hT, hr, hlk⟩ := id C
  rw [fX6_as] at hf
  have j_15 : ∀ (G : M2) (H : Heap) (locs : List Loc) (ls : Array Slot), fX6_as_c15  G J = some (r, G') → Hp g A s H locs (wM g ad G J) → lv_has ls 5 [(0, .ref (ad 0))] → W p l e rmX6_as s m args below meth c H locs 0 0 (QI g A below args s r (wM g ad G' J)) (F0 m 15 ls []) := by
    intro G H locs  ls hf hH hl
    rw [fX6_as_c15] at hf
    refine lv_aload_n hx hb dX6_as_15 rfl (lv_at hl 0 rfl) ?_
    refine lv_ldc hx hb hown (hT _ tw_5_1) dX6_as_16 ?_
    obtain ⟨r_24, G_25, hc_26, hf⟩ := bind2_inv hf
    refine aftI (runV C hE hA hH [0, 1, 2, 3, 4, 5, 6, 7, 8, 9, 10, 11] nC_M_M_0_11 (sC_M_M_0_11 g ad G J) (kX6_finds l g ad _ G J (-1000000001 : Int32) r_24 G_25  hc_26) tw_5_9 tw_5_10 tw_5_11 tw_1_5 tw_5_12 hdX6_finds 0 rfl rfl rfl rfl ⟨Nat.le_of_ble_eq_true rfl, Nat.le_of_ble_eq_true rfl⟩ rfl hl.1 (rest := []) rfl (Nat.le_of_ble_eq_true rfl) dX6_as_18 ⟨Nat.zero_le _, Nat.zero_le _⟩) hA hH [0, 1, 2, 3, 4, 5, 6, 7, 8, 9, 10, 11] [] (sC_M_M_0_11 g ad G J) (sR_M_M_0_11 g ad G J) nR_M_M_0_11 dj_M_M_0_11 [0, 1, 2, 3, 4, 5, 6, 7, 8, 9, 10, 11] nP_M_M_0_11 (sP_M_M_0_11 g ad G J G_25 J) (fun H locs hH => ?_)
    have hf := Option.some.inj hf
    obtain ⟨h1, h2⟩ := Prod.mk.inj hf
    subst h1
    subst h2
    exact retI C hH rfl dX6_as_21
  have j_63 : ∀ (y1 : Int32) (z0 : Int32) (G : M2) (H : Heap) (locs : List Loc) (ls : Array Slot), fX6_as_c63  y1 z0 G J = some (r, G') → Hp g A s H locs (wM g ad G J) → lv_has ls 5 [(0, .ref (ad 0)), (1, .int y1)] → W p l e rmX6_as s m args below meth c H locs 0 0 (QI g A below args s r (wM g ad G' J)) (F0 m 63 ls [.int z0]) := by
    intro y1 z0 G H locs  ls hf hH hl
    rw [fX6_as_c63] at hf
    have j_85 : ∀ (z0 : Int32) (G : M2) (H : Heap) (locs : List Loc) (ls : Array Slot), fX6_as_c85  z0 G J = some (r, G') → Hp g A s H locs (wM g ad G J) → lv_has ls 5 [] → W p l e rmX6_as s m args below meth c H locs 0 0 (QI g A below args s r (wM g ad G' J)) (F0 m 85 ls [.int z0]) := by
      intro z0 G H locs  ls hf hH hl
      rw [fX6_as_c85] at hf
      have hf := Option.some.inj hf
      obtain ⟨h1, h2⟩ := Prod.mk.inj hf
      subst h1
      subst h2
      exact retI C hH rfl dX6_as_85
    refine lv_istore (lv' := [(4, .int z0), (0, .ref (ad 0)), (1, .int y1)]) hx hb dX6_as_63 hl (by decide) rfl (fun ls hl => ?_)
    refine lv_iload hx hb dX6_as_65 (lv_at hl 0 rfl) ?_
    refine lv_if_eq (tgt := 79) hx hb dX6_as_67 (by decide) (fun c_27 => ?_) (fun c_27 => ?_)
    · have hf := if_p hf c_27
      refine lv_aload_n hx hb dX6_as_79 rfl (lv_at hl 1 rfl) ?_
      refine lv_ldc hx hb hown (hT _ tw_13_18) dX6_as_80 ?_
      obtain ⟨r_28, G_29, hc_30, hf⟩ := bind2_inv hf
      refine aftI (runV C hE hA hH [0, 1, 2, 3, 4, 5, 6, 7, 8, 9, 10, 11] nC_M_M_0_11 (sC_M_M_0_11 g ad G J) (kX6_finds l g ad _ G J (-1000000003 : Int32) r_28 G_29  hc_30) tw_5_9 tw_5_10 tw_5_11 tw_1_5 tw_5_12 hdX6_finds 0 rfl rfl rfl rfl ⟨Nat.le_of_ble_eq_true rfl, Nat.le_of_ble_eq_true rfl⟩ rfl hl.1 (rest := []) rfl (Nat.le_of_ble_eq_true rfl) dX6_as_82 ⟨Nat.zero_le _, Nat.zero_le _⟩) hA hH [0, 1, 2, 3, 4, 5, 6, 7, 8, 9, 10, 11] [] (sC_M_M_0_11 g ad G J) (sR_M_M_0_11 g ad G J) nR_M_M_0_11 dj_M_M_0_11 [0, 1, 2, 3, 4, 5, 6, 7, 8, 9, 10, 11] nP_M_M_0_11 (sP_M_M_0_11 g ad G J G_29 J) (fun H locs hH => ?_)
      exact j_85 r_28 G_29 _ _ ls hf hH (lv_sub hl [] rfl)
    · have hf := if_n hf c_27
      refine lv_aload_n hx hb dX6_as_70 rfl (lv_at hl 1 rfl) ?_
      refine lv_iload_n hx hb dX6_as_71 rfl (lv_at hl 2 rfl) ?_
      refine lv_iconst (v := 3) hx hb dX6_as_72 (by decide) ?_
      obtain ⟨r_31, hc_32, hf⟩ := bind_inv hf
      refine aftPI (runV C hE hA hH [0, 1, 2, 3, 4, 5, 6, 7, 8, 9, 10, 11] nC_M_M_0_11 (sC_M_M_0_11 g ad G J) (kX6_its l g ad _ G J y1 (3 : Int32) r_31  hc_32) tw_10_14 tw_10_15 tw_10_16 tw_1_5 tw_10_17 hdX6_its 0 rfl rfl rfl rfl ⟨Nat.le_of_ble_eq_true rfl, Nat.le_of_ble_eq_true rfl⟩ rfl hl.1 (rest := []) rfl (Nat.le_of_ble_eq_true rfl) dX6_as_73 ⟨Nat.zero_le _, Nat.zero_le _⟩) ?_
      refine lv_goto (tgt := 85) hx hb dX6_as_76 (by decide) ?_
      exact j_85 r_31 G _ _ ls hf hH (lv_sub hl [] rfl)
  have j_58 : ∀ (y1 : Int32) (G : M2) (H : Heap) (locs : List Loc) (ls : Array Slot), fX6_as_c58  y1 G J = some (r, G') → Hp g A s H locs (wM g ad G J) → lv_has ls 5 [(0, .ref (ad 0)), (1, .int y1)] → W p l e rmX6_as s m args below meth c H locs 0 0 (QI g A below args s r (wM g ad G' J)) (F0 m 58 ls []) := by
    intro y1 G H locs  ls hf hH hl
    rw [fX6_as_c58] at hf
    refine lv_iconst (v := 1) hx hb dX6_as_58 (by decide) ?_
    refine lv_goto (tgt := 63) hx hb dX6_as_59 (by decide) ?_
    exact j_63 y1 (1 : Int32) G _ _ ls hf hH (lv_sub hl [0, 1] rfl)
  have j_48 : ∀ (y1 : Int32) (y2 : Int32) (y3 : Int32) (G : M2) (H : Heap) (locs : List Loc) (ls : Array Slot), fX6_as_c48  y1 y2 y3 G J = some (r, G') → Hp g A s H locs (wM g ad G J) → lv_has ls 5 [(0, .ref (ad 0)), (1, .int y1), (2, .int y2), (3, .int y3)] → W p l e rmX6_as s m args below meth c H locs 0 0 (QI g A below args s r (wM g ad G' J)) (F0 m 48 ls []) := by
    intro y1 y2 y3 G H locs  ls hf hH hl
    rw [fX6_as_c48] at hf
    have j_62 : ∀ (y1 : Int32) (G : M2) (H : Heap) (locs : List Loc) (ls : Array Slot), fX6_as_c62  y1 G J = some (r, G') → Hp g A s H locs (wM g ad G J) → lv_has ls 5 [(0, .ref (ad 0)), (1, .int y1)] → W p l e rmX6_as s m args below meth c H locs 0 0 (QI g A below args s r (wM g ad G' J)) (F0 m 62 ls []) := by
      intro y1 G H locs  ls hf hH hl
      rw [fX6_as_c62] at hf
      refine lv_iconst (v := 0) hx hb dX6_as_62 (by decide) ?_
      exact j_63 y1 (0 : Int32) G _ _ ls hf hH (lv_sub hl [0, 1] rfl)
    refine lv_iload_n hx hb dX6_as_48 rfl (lv_at hl 2 rfl) ?_
    refine lv_iconst (v := 2) hx hb dX6_as_49 (by decide) ?_
    refine lv_icmp_ne (tgt := 62) hx hb dX6_as_50 (by decide) (fun c_33 => ?_) (fun c_33 => ?_)
    · have hf := if_n hf c_33
      exact j_62 y1 G _ _ ls hf hH (lv_sub hl [0, 1] rfl)
    · have hf := if_p hf c_33
      refine lv_iload_n hx hb dX6_as_53 rfl (lv_at hl 3 rfl) ?_
      refine lv_iconst (v := 5) hx hb dX6_as_54 (by decide) ?_
      refine lv_icmp_ne (tgt := 62) hx hb dX6_as_55 (by decide) (fun c_34 => ?_) (fun c_34 => ?_)
      · have hf := if_n hf c_34
        exact j_62 y1 G _ _ ls hf hH (lv_sub hl [0, 1] rfl)
      · have hf := if_p hf c_34
        exact j_58 y1 G _ _ ls hf hH (lv_sub hl [0, 1] rfl)
  refine lv_aload_n hx hb dX6_as_0 rfl (lv_at hl 0 rfl) ?_
  refine lv_iload_n hx hb dX6_as_1 rfl (lv_at hl 1 rfl) ?_
  obtain ⟨r_35, hc_36, hf⟩ := bind_inv hf
  refine aftPI (runV C hE hA hH [0, 1, 2, 3, 4, 5, 6, 7, 8, 9, 10, 11] nC_M_M_0_11 (sC_M_M_0_11 g ad G J) (kX6_isOne l g ad _ G J x1 r_35  hc_36) tw_10_6 tw_10_7 tw_10_8 tw_1_5 tw_10_9 hdX6_isOne 0 rfl rfl rfl rfl ⟨Nat.le_of_ble_eq_true rfl, Nat.le_of_ble_eq_true rfl⟩ rfl hl.1 (rest := []) rfl (Nat.le_of_ble_eq_true rfl) dX6_as_2 ⟨Nat.zero_le _, Nat.zero_le _⟩) ?_
  refine lv_if_eq (tgt := 15) hx hb dX6_as_5 (by decide) (fun c_37 => ?_) (fun c_37 => ?_)
  · have hf := if_p hf c_37
    exact j_15 G _ _ ls hf hH (lv_sub hl [0] rfl)
  · have hf := if_n hf c_37
    refine lv_iload_n hx hb dX6_as_8 rfl (lv_at hl 2 rfl) ?_
    obtain ⟨r_38, hc_39, hf⟩ := bind_inv hf
    refine aftPI (runS C hE hA hH [] rfl rfl (kX6_isKind l g ad _ x2 r_38  hc_39) tw_8_10 tw_8_11 tw_1_5 tw_8_12 hdX6_isKind rfl rfl ⟨Nat.le_of_ble_eq_true rfl, Nat.le_of_ble_eq_true rfl⟩ rfl hl.1 (rest := []) rfl (Nat.le_of_ble_eq_true rfl) dX6_as_9 ⟨Nat.zero_le _, Nat.zero_le _⟩) ?_
    refine lv_if_ne (tgt := 22) hx hb dX6_as_12 (by decide) (fun c_40 => ?_) (fun c_40 => ?_)
    · have hf := if_n hf c_40
      refine lv_aload_n hx hb dX6_as_22 rfl (lv_at hl 0 rfl) ?_
      refine lv_iload_n hx hb dX6_as_23 rfl (lv_at hl 1 rfl) ?_
      refine lv_iconst (v := 0) hx hb dX6_as_24 (by decide) ?_
      obtain ⟨r_41, hc_42, hf⟩ := bind_inv hf
      refine aftPI (runV C hE hA hH [0, 1, 2, 3, 4, 5, 6, 7, 8, 9, 10, 11] nC_M_M_0_11 (sC_M_M_0_11 g ad G J) (kX6_its l g ad _ G J x1 (0 : Int32) r_41  hc_42) tw_10_14 tw_10_15 tw_10_16 tw_1_5 tw_10_17 hdX6_its 0 rfl rfl rfl rfl ⟨Nat.le_of_ble_eq_true rfl, Nat.le_of_ble_eq_true rfl⟩ rfl hl.1 (rest := []) rfl (Nat.le_of_ble_eq_true rfl) dX6_as_25 ⟨Nat.zero_le _, Nat.zero_le _⟩) ?_
      refine lv_istore_n (lv' := [(3, .int r_41), (0, .ref (ad 0)), (1, .int x1), (2, .int x2)]) hx hb dX6_as_28 rfl hl (by decide) rfl (fun ls hl => ?_)
      refine lv_iload_n hx hb dX6_as_29 rfl (lv_at hl 3 rfl) ?_
      refine lv_if_eq (tgt := 58) hx hb dX6_as_30 (by decide) (fun c_43 => ?_) (fun c_43 => ?_)
      · have hf := if_p hf c_43
        exact j_58 x1 G _ _ ls hf hH (lv_sub hl [1, 2] rfl)
      · have hf := if_n hf c_43
        refine lv_iload_n hx hb dX6_as_33 rfl (lv_at hl 3 rfl) ?_
        refine lv_iload_n hx hb dX6_as_34 rfl (lv_at hl 0 rfl) ?_
        refine lv_icmp_eq (tgt := 58) hx hb dX6_as_35 (by decide) (fun c_44 => ?_) (fun c_44 => ?_)
        · have hf := if_p hf c_44
          exact j_58 x1 G _ _ ls hf hH (lv_sub hl [1, 2] rfl)
        · have hf := if_n hf c_44
          refine lv_iload_n hx hb dX6_as_38 rfl (lv_at hl 3 rfl) ?_
          refine lv_iconst (v := 1) hx hb dX6_as_39 (by decide) ?_
          refine lv_icmp_ne (tgt := 48) hx hb dX6_as_40 (by decide) (fun c_45 => ?_) (fun c_45 => ?_)
          · have hf := if_n hf c_45
            exact j_48 x1 x2 r_41 G _ _ ls hf hH (lv_sub hl [1, 2, 3, 0] rfl)
          · have hf := if_p hf c_45
            refine lv_iload_n hx hb dX6_as_43 rfl (lv_at hl 0 rfl) ?_
            refine lv_iconst (v := 4) hx hb dX6_as_44 (by decide) ?_
            refine lv_icmp_eq (tgt := 58) hx hb dX6_as_45 (by decide) (fun c_46 => ?_) (fun c_46 => ?_)
            · have hf := if_p hf c_46
              exact j_58 x1 G _ _ ls hf hH (lv_sub hl [1, 2] rfl)
            · have hf := if_n hf c_46
              exact j_48 x1 x2 r_41 G _ _ ls hf hH (lv_sub hl [1, 2, 3, 0] rfl)
    · have hf := if_p hf c_40
      exact j_15 G _ _ ls hf hH (lv_sub hl [0] rfl)
def fX6_onSet_c32  (y1 : Int32) (G : M2) (J : J2) : Option (Int32) := some y1
def fX6_onSet_c4  : Nat → Int32 → Int32 → M2 → J2 → Option (Int32)
  | 0, _, _, _, _ => none
  | n + 1, y1, y2, G, J => grd (inb (6 : Int32) 75) ((if (G 1 (6 : Int32).toNatClampNeg) ≤ y2 then fX6_onSet_c32  y1 G J else (fX6_its y2 (1 : Int32) G J).bind (fun (r_9 : Int32) => letb (y1 ||| (r_9 <<< (y2 &&& 31))) (fun v_11 : Int32 => letb (y2 + (1 : Int32)) (fun v_12 : Int32 => fX6_onSet_c4 n v_11 v_12 G J)))))
def fX6_onSet (G : M2) (J : J2) : Option (Int32) := fX6_onSet_c4  FU (0 : Int32) (0 : Int32) G J
def rmX6_onSet : Room := { frames := 1, cells := 0, slots := 0, locals := 22 }
theorem hdX6_onSet : yX6_onSet.cls = yX6_onSet.cls ∧ yX6_onSet.cls ≠ "java/lang/invoke/MethodHandle" ∧ yX6_onSet.cls ≠ "java/lang/invoke/VarHandle" ∧ (parseMethodDescriptor yX6_onSet.desc).map (fun d => d.parameters.length) = some 0 := by decide +kernel
set_option maxHeartbeats 4000000 in
set_option maxRecDepth 100000 in
theorem kX6_onSet (l : Launch) (g : Gl) (ad : Nat → Nat) (sz : Nat) (G : M2) (J : J2)  (r : Int32)  (hf : fX6_onSet G J = some r) : MetPI l yX6_onSet (Cond.code yX6_onSet cX6_onSet 3 (some .int) :: wsL_law) rmX6_onSet [.ref (ad 0)] g (wM g ad G J) sz r := by
  refine openPI (by decide +kernel) (Nat.le_of_ble_eq_true rfl) ?_
  intro p e s m args below meth c A C hE hA hH ls hl
  have hl : lv_has ls 3 [(0, .ref (ad 0))] := hl
  have C : Cx p s m args meth c cX6_onSet 3 (some .int) RX6 := C
  obtain ⟨hx, hb, hml, hown, hT, hr, hlk⟩ := id C
  rw [fX6_onSet] at hf
  have lp_4 : ∀ (n_4 : Nat) (y1 : Int32) (y2 : Int32) (ls : Array Slot), fX6_onSet_c4  n_4 y1 y2 G J = some r → lv_has ls 3 [(0, .ref (ad 0)), (1, .int y1), (2, .int y2)] → W p l e rmX6_onSet s m args below meth c s.heap [] 0 0 (QPI below args s r) (F0 m 4 ls []) := by
    intro n_4
    induction n_4 with
    | zero =>
      intro y1 y2  ls hf hl
      rw [fX6_onSet_c4] at hf
      cases hf
    | succ n_4 ih_4 =>
      intro y1 y2  ls hf hl
      rw [fX6_onSet_c4] at hf
      have j_32 : ∀ (y1 : Int32) (ls : Array Slot), fX6_onSet_c32  y1 G J = some r → lv_has ls 3 [(1, .int y1)] → W p l e rmX6_onSet s m args below meth c s.heap [] 0 0 (QPI below args s r) (F0 m 32 ls []) := by
        intro y1  ls hf hl
        rw [fX6_onSet_c32] at hf
        refine lv_iload_n hx hb dX6_onSet_32 rfl (lv_at hl 0 rfl) ?_
        have h1 := Option.some.inj hf
        subst h1
        exact retPI C rfl dX6_onSet_33
      refine lv_iload_n hx hb dX6_onSet_4 rfl (lv_at hl 2 rfl) ?_
      refine lv_aload_n hx hb dX6_onSet_5 rfl (lv_at hl 0 rfl) ?_
      refine gf_RX6_7 C hE hH 0 rfl rfl dX6_onSet_6 ?_
      refine lv_bipush (v := 6) hx hb dX6_onSet_9 (by decide) ?_
      obtain ⟨hi_7, hf⟩ := grd_inv hf
      refine xiald C hE hH 1 rfl hi_7 dX6_onSet_11 ?_
      refine lv_icmp_ge (tgt := 32) hx hb dX6_onSet_12 (by decide) (fun c_8 => ?_) (fun c_8 => ?_)
      · have hf := if_p hf c_8
        exact j_32 y1 ls hf (lv_sub hl [1] rfl)
      · have hf := if_n hf c_8
        refine lv_iload_n hx hb dX6_onSet_15 rfl (lv_at hl 1 rfl) ?_
        refine lv_aload_n hx hb dX6_onSet_16 rfl (lv_at hl 0 rfl) ?_
        refine lv_iload_n hx hb dX6_onSet_17 rfl (lv_at hl 2 rfl) ?_
        refine lv_iconst (v := 1) hx hb dX6_onSet_18 (by decide) ?_
        obtain ⟨r_9, hc_10, hf⟩ := bind_inv hf
        refine aftPI (runV C hE hA hH [0, 1, 2, 3, 4, 5, 6, 7, 8, 9, 10, 11] nC_M_M_0_11 (sC_M_M_0_11 g ad G J) (kX6_its l g ad _ G J y2 (1 : Int32) r_9  hc_10) tw_10_14 tw_10_15 tw_10_16 tw_1_5 tw_10_17 hdX6_its 0 rfl rfl rfl rfl ⟨Nat.le_of_ble_eq_true rfl, Nat.le_of_ble_eq_true rfl⟩ rfl hl.1 (rest := [.int y1]) rfl (Nat.le_of_ble_eq_true rfl) dX6_onSet_19 ⟨Nat.zero_le _, Nat.zero_le _⟩) ?_
        refine lv_iload_n hx hb dX6_onSet_22 rfl (lv_at hl 2 rfl) ?_
        refine lv_ishl hx hb dX6_onSet_23 ?_
        refine lv_ior hx hb dX6_onSet_24 ?_
        refine lv_topi (fun v_11 ev_11 => ?_)
        have hf := letb_at hf v_11 ev_11
        refine lv_istore_n (lv' := [(1, .int v_11), (0, .ref (ad 0)), (2, .int y2)]) hx hb dX6_onSet_25 rfl hl (by decide) rfl (fun ls hl => ?_)
        obtain ⟨v_12, ev_12⟩ : ∃ z : Int32, z = y2 + (1 : Int32) := ⟨_, rfl⟩
        have hf := letb_at hf v_12 ev_12
        refine lv_iinc (v := v_12) (lv' := [(2, .int v_12), (1, .int v_11), (0, .ref (ad 0))]) hx hb dX6_onSet_26 hl (k := 2) rfl (by rw [ev_12]; rfl) (by decide) rfl (fun ls hl => ?_)
        refine lv_goto (tgt := 4) hx hb dX6_onSet_29 (by decide) ?_
        exact ih_4 v_11 v_12 ls hf (lv_sub hl [2, 1, 0] rfl)
  refine lv_iconst (v := 0) hx hb dX6_onSet_0 (by decide) ?_
  refine lv_istore_n (lv' := [(1, .int (0 : Int32)), (0, .ref (ad 0))]) hx hb dX6_onSet_1 rfl hl (by decide) rfl (fun ls hl => ?_)
  refine lv_iconst (v := 0) hx hb dX6_onSet_2 (by decide) ?_
  refine lv_istore_n (lv' := [(2, .int (0 : Int32)), (1, .int (0 : Int32)), (0, .ref (ad 0))]) hx hb dX6_onSet_3 rfl hl (by decide) rfl (fun ls hl => ?_)
  exact lp_4 _ (0 : Int32) (0 : Int32) ls hf (lv_sub hl [2, 1, 0] rfl)
def fX6_usesAll_c43  (y1 : Int32) (G : M2) (J : J2) : Option (Int32) := some y1
def fX6_usesAll_c35 (k_4 : Int32 → Int32 → M2 → J2 → Option (Int32)) (y2 : Int32) (z0 : Int32) (z1 : Int32) (G : M2) (J : J2) : Option (Int32) := letb (z1 + z0) (fun v_10 : Int32 => letb (y2 + (1 : Int32)) (fun v_11 : Int32 => k_4 v_10 v_11 G J))
def fX6_usesAll_c4  : Nat → Int32 → Int32 → M2 → J2 → Option (Int32)
  | 0, _, _, _, _ => none
  | n + 1, y1, y2, G, J => grd (inb (6 : Int32) 75) ((if (G 1 (6 : Int32).toNatClampNeg) ≤ y2 then fX6_usesAll_c43  y1 G J else (fX6_its y2 (1 : Int32) G J).bind (fun (r_14 : Int32) => (if r_14 = (1 : Int32) then (fX6_uses y2 G J).bind (fun (r_17 : Int32) => fX6_usesAll_c35 (fX6_usesAll_c4 n) y2 r_17 y1 G J) else fX6_usesAll_c35 (fX6_usesAll_c4 n) y2 (0 : Int32) y1 G J))))
def fX6_usesAll (G : M2) (J : J2) : Option (Int32) := fX6_usesAll_c4  FU (0 : Int32) (0 : Int32) G J
def rmX6_usesAll : Room := { frames := 4, cells := 0, slots := 0, locals := 87 }
theorem hdX6_usesAll : yX6_usesAll.cls = yX6_usesAll.cls ∧ yX6_usesAll.cls ≠ "java/lang/invoke/MethodHandle" ∧ yX6_usesAll.cls ≠ "java/lang/invoke/VarHandle" ∧ (parseMethodDescriptor yX6_usesAll.desc).map (fun d => d.parameters.length) = some 0 := by decide +kernel
set_option maxHeartbeats 4000000 in
set_option maxRecDepth 100000 in
theorem kX6_usesAll (l : Launch) (g : Gl) (ad : Nat → Nat) (sz : Nat) (G : M2) (J : J2)  (r : Int32)  (hf : fX6_usesAll G J = some r) : MetPI l yX6_usesAll (Cond.code yX6_usesAll cX6_usesAll 3 (some .int) :: wsL_law) rmX6_usesAll [.ref (ad 0)] g (wM g ad G J) sz r := by
  refine openPI (by decide +kernel) (Nat.le_of_ble_eq_true rfl) ?_
  intro p e s m args below meth c A C hE hA hH ls hl
  have hl : lv_has ls 3 [(0, .ref (ad 0))] := hl
  have C : Cx p s m args meth c cX6_usesAll 3 (some .int) RX6 := C
  obtain ⟨hx, hb, hml, hown, hT, hr, hlk⟩ := id C
  rw [fX6_usesAll] at hf
  have lp_4 : ∀ (n_4 : Nat) (y1 : Int32) (y2 : Int32) (ls : Array Slot), fX6_usesAll_c4  n_4 y1 y2 G J = some r → lv_has ls 3 [(0, .ref (ad 0)), (1, .int y1), (2, .int y2)] → W p l e rmX6_usesAll s m args below meth c s.heap [] 0 0 (QPI below args s r) (F0 m 4 ls []) := by
    intro n_4
    induction n_4 with
    | zero =>
      intro y1 y2  ls hf hl
      rw [fX6_usesAll_c4] at hf
      cases hf
    | succ n_4 ih_4 =>
      intro y1 y2  ls hf hl
      rw [fX6_usesAll_c4] at hf
      have j_43 : ∀ (y1 : Int32) (ls : Array Slot), fX6_usesAll_c43  y1 G J = some r → lv_has ls 3 [(1, .int y1)] → W p l e rmX6_usesAll s m args below meth c s.heap [] 0 0 (QPI below args s r) (F0 m 43 ls []) := by
        intro y1  ls hf hl
        rw [fX6_usesAll_c43] at hf
        refine lv_iload_n hx hb dX6_usesAll_43 rfl (lv_at hl 0 rfl) ?_
        have h1 := Option.some.inj hf
        subst h1
        exact retPI C rfl dX6_usesAll_44
      have j_35 : ∀ (y2 : Int32) (z0 : Int32) (z1 : Int32) (ls : Array Slot), fX6_usesAll_c35 (fX6_usesAll_c4 n_4) y2 z0 z1 G J = some r → lv_has ls 3 [(0, .ref (ad 0)), (2, .int y2)] → W p l e rmX6_usesAll s m args below meth c s.heap [] 0 0 (QPI below args s r) (F0 m 35 ls [.int z0, .int z1]) := by
        intro y2 z0 z1  ls hf hl
        rw [fX6_usesAll_c35] at hf
        refine lv_iadd hx hb dX6_usesAll_35 ?_
        refine lv_topi (fun v_10 ev_10 => ?_)
        have hf := letb_at hf v_10 ev_10
        refine lv_istore_n (lv' := [(1, .int v_10), (0, .ref (ad 0)), (2, .int y2)]) hx hb dX6_usesAll_36 rfl hl (by decide) rfl (fun ls hl => ?_)
        obtain ⟨v_11, ev_11⟩ : ∃ z : Int32, z = y2 + (1 : Int32) := ⟨_, rfl⟩
        have hf := letb_at hf v_11 ev_11
        refine lv_iinc (v := v_11) (lv' := [(2, .int v_11), (1, .int v_10), (0, .ref (ad 0))]) hx hb dX6_usesAll_37 hl (k := 2) rfl (by rw [ev_11]; rfl) (by decide) rfl (fun ls hl => ?_)
        refine lv_goto (tgt := 4) hx hb dX6_usesAll_40 (by decide) ?_
        exact ih_4 v_10 v_11 ls hf (lv_sub hl [2, 1, 0] rfl)
      refine lv_iload_n hx hb dX6_usesAll_4 rfl (lv_at hl 2 rfl) ?_
      refine lv_aload_n hx hb dX6_usesAll_5 rfl (lv_at hl 0 rfl) ?_
      refine gf_RX6_7 C hE hH 0 rfl rfl dX6_usesAll_6 ?_
      refine lv_bipush (v := 6) hx hb dX6_usesAll_9 (by decide) ?_
      obtain ⟨hi_12, hf⟩ := grd_inv hf
      refine xiald C hE hH 1 rfl hi_12 dX6_usesAll_11 ?_
      refine lv_icmp_ge (tgt := 43) hx hb dX6_usesAll_12 (by decide) (fun c_13 => ?_) (fun c_13 => ?_)
      · have hf := if_p hf c_13
        exact j_43 y1 ls hf (lv_sub hl [1] rfl)
      · have hf := if_n hf c_13
        refine lv_iload_n hx hb dX6_usesAll_15 rfl (lv_at hl 1 rfl) ?_
        refine lv_aload_n hx hb dX6_usesAll_16 rfl (lv_at hl 0 rfl) ?_
        refine lv_iload_n hx hb dX6_usesAll_17 rfl (lv_at hl 2 rfl) ?_
        refine lv_iconst (v := 1) hx hb dX6_usesAll_18 (by decide) ?_
        obtain ⟨r_14, hc_15, hf⟩ := bind_inv hf
        refine aftPI (runV C hE hA hH [0, 1, 2, 3, 4, 5, 6, 7, 8, 9, 10, 11] nC_M_M_0_11 (sC_M_M_0_11 g ad G J) (kX6_its l g ad _ G J y2 (1 : Int32) r_14  hc_15) tw_10_14 tw_10_15 tw_10_16 tw_1_5 tw_10_17 hdX6_its 0 rfl rfl rfl rfl ⟨Nat.le_of_ble_eq_true rfl, Nat.le_of_ble_eq_true rfl⟩ rfl hl.1 (rest := [.int y1]) rfl (Nat.le_of_ble_eq_true rfl) dX6_usesAll_19 ⟨Nat.zero_le _, Nat.zero_le _⟩) ?_
        refine lv_iconst (v := 1) hx hb dX6_usesAll_22 (by decide) ?_
        refine lv_icmp_ne (tgt := 34) hx hb dX6_usesAll_23 (by decide) (fun c_16 => ?_) (fun c_16 => ?_)
        · have hf := if_n hf c_16
          refine lv_iconst (v := 0) hx hb dX6_usesAll_34 (by decide) ?_
          exact j_35 y2 (0 : Int32) y1 ls hf (lv_sub hl [0, 2] rfl)
        · have hf := if_p hf c_16
          refine lv_aload_n hx hb dX6_usesAll_26 rfl (lv_at hl 0 rfl) ?_
          refine lv_iload_n hx hb dX6_usesAll_27 rfl (lv_at hl 2 rfl) ?_
          obtain ⟨r_17, hc_18, hf⟩ := bind_inv hf
          refine aftPI (runV C hE hA hH [0, 1, 2, 3, 4, 5, 6, 7, 8, 9, 10, 11] nC_M_M_0_11 (sC_M_M_0_11 g ad G J) (kX6_uses l g ad _ G J y2 r_17  hc_18) tw_10_10 tw_10_11 tw_10_12 tw_1_5 tw_10_13 hdX6_uses 0 rfl rfl rfl rfl ⟨Nat.le_of_ble_eq_true rfl, Nat.le_of_ble_eq_true rfl⟩ rfl hl.1 (rest := [.int y1]) rfl (Nat.le_of_ble_eq_true rfl) dX6_usesAll_28 ⟨Nat.zero_le _, Nat.zero_le _⟩) ?_
          refine lv_goto (tgt := 35) hx hb dX6_usesAll_31 (by decide) ?_
          exact j_35 y2 r_17 y1 ls hf (lv_sub hl [0, 2] rfl)
  refine lv_iconst (v := 0) hx hb dX6_usesAll_0 (by decide) ?_
  refine lv_istore_n (lv' := [(1, .int (0 : Int32)), (0, .ref (ad 0))]) hx hb dX6_usesAll_1 rfl hl (by decide) rfl (fun ls hl => ?_)
  refine lv_iconst (v := 0) hx hb dX6_usesAll_2 (by decide) ?_
  refine lv_istore_n (lv' := [(2, .int (0 : Int32)), (1, .int (0 : Int32)), (0, .ref (ad 0))]) hx hb dX6_usesAll_3 rfl hl (by decide) rfl (fun ls hl => ?_)
  exact lp_4 _ (0 : Int32) (0 : Int32) ls hf (lv_sub hl [2, 1, 0] rfl)
def fX6_first_c56  (y2 : Int32) (G : M2) (J : J2) : Option (Int32) := some y2
def fX6_first_c49 (k_4 : Int32 → Int32 → Int32 → M2 → J2 → Option (Int32)) (y1 : Int32) (y3 : Int32) (z0 : Int32) (G : M2) (J : J2) : Option (Int32) := letb (y3 + (1 : Int32)) (fun v_13 : Int32 => k_4 y1 z0 v_13 G J)
def fX6_first_c48 (k_4 : Int32 → Int32 → Int32 → M2 → J2 → Option (Int32)) (y1 : Int32) (y2 : Int32) (y3 : Int32) (G : M2) (J : J2) : Option (Int32) := fX6_first_c49 k_4 y1 y3 y2 G J
def fX6_first_c44 (k_4 : Int32 → Int32 → Int32 → M2 → J2 → Option (Int32)) (y1 : Int32) (y3 : Int32) (G : M2) (J : J2) : Option (Int32) := fX6_first_c49 k_4 y1 y3 y3 G J
def fX6_first_c4  : Nat → Int32 → Int32 → Int32 → M2 → J2 → Option (Int32)
  | 0, _, _, _, _, _ => none
  | n + 1, y1, y2, y3, G, J => grd (inb (6 : Int32) 75) ((if (G 1 (6 : Int32).toNatClampNeg) ≤ y3 then fX6_first_c56  y2 G J else (fX6_its y3 (1 : Int32) G J).bind (fun (r_16 : Int32) => (if r_16 = y1 then (if y2 < 0 then fX6_first_c44 (fX6_first_c4 n) y1 y3 G J else (fX6_its y3 (2 : Int32) G J).bind (fun (r_20 : Int32) => (fX6_its y2 (2 : Int32) G J).bind (fun (r_22 : Int32) => (if r_22 ≤ r_20 then fX6_first_c48 (fX6_first_c4 n) y1 y2 y3 G J else fX6_first_c44 (fX6_first_c4 n) y1 y3 G J)))) else fX6_first_c48 (fX6_first_c4 n) y1 y2 y3 G J))))
def fX6_first (x1 : Int32) (G : M2) (J : J2) : Option (Int32) := fX6_first_c4  FU x1 (-1 : Int32) (0 : Int32) G J
def rmX6_first : Room := { frames := 1, cells := 0, slots := 0, locals := 22 }
theorem hdX6_first : yX6_first.cls = yX6_first.cls ∧ yX6_first.cls ≠ "java/lang/invoke/MethodHandle" ∧ yX6_first.cls ≠ "java/lang/invoke/VarHandle" ∧ (parseMethodDescriptor yX6_first.desc).map (fun d => d.parameters.length) = some 1 := by decide +kernel
set_option maxHeartbeats 4000000 in
set_option maxRecDepth 100000 in
theorem kX6_first (l : Launch) (g : Gl) (ad : Nat → Nat) (sz : Nat) (G : M2) (J : J2) (x1 : Int32) (r : Int32)  (hf : fX6_first x1 G J = some r) : MetPI l yX6_first (Cond.code yX6_first cX6_first 4 (some .int) :: wsL_law) rmX6_first [.ref (ad 0), .int x1] g (wM g ad G J) sz r := by
  refine openPI (by decide +kernel) (Nat.le_of_ble_eq_true rfl) ?_
  intro p e s m args below meth c A C hE hA hH ls hl
  have hl : lv_has ls 4 [(0, .ref (ad 0)), (1, .int x1)] := hl
  have C : Cx p s m args meth c cX6_first 4 (some .int) RX6 := C
  obtain ⟨hx, hb, hml, hown, hT, hr, hlk⟩ := id C
  rw [fX6_first] at hf
  have lp_4 : ∀ (n_4 : Nat) (y1 : Int32) (y2 : Int32) (y3 : Int32) (ls : Array Slot), fX6_first_c4  n_4 y1 y2 y3 G J = some r → lv_has ls 4 [(0, .ref (ad 0)), (1, .int y1), (2, .int y2), (3, .int y3)] → W p l e rmX6_first s m args below meth c s.heap [] 0 0 (QPI below args s r) (F0 m 4 ls []) := by
    intro n_4
    induction n_4 with
    | zero =>
      intro y1 y2 y3  ls hf hl
      rw [fX6_first_c4] at hf
      cases hf
    | succ n_4 ih_4 =>
      intro y1 y2 y3  ls hf hl
      rw [fX6_first_c4] at hf
      have j_56 : ∀ (y2 : Int32) (ls : Array Slot), fX6_first_c56  y2 G J = some r → lv_has ls 4 [(2, .int y2)] → W p l e rmX6_first s m args below meth c s.heap [] 0 0 (QPI below args s r) (F0 m 56 ls []) := by
        intro y2  ls hf hl
        rw [fX6_first_c56] at hf
        refine lv_iload_n hx hb dX6_first_56 rfl (lv_at hl 0 rfl) ?_
        have h1 := Option.some.inj hf
        subst h1
        exact retPI C rfl dX6_first_57
      have j_49 : ∀ (y1 : Int32) (y3 : Int32) (z0 : Int32) (ls : Array Slot), fX6_first_c49 (fX6_first_c4 n_4) y1 y3 z0 G J = some r → lv_has ls 4 [(0, .ref (ad 0)), (1, .int y1), (3, .int y3)] → W p l e rmX6_first s m args below meth c s.heap [] 0 0 (QPI below args s r) (F0 m 49 ls [.int z0]) := by
        intro y1 y3 z0  ls hf hl
        rw [fX6_first_c49] at hf
        refine lv_istore_n (lv' := [(2, .int z0), (0, .ref (ad 0)), (1, .int y1), (3, .int y3)]) hx hb dX6_first_49 rfl hl (by decide) rfl (fun ls hl => ?_)
        obtain ⟨v_13, ev_13⟩ : ∃ z : Int32, z = y3 + (1 : Int32) := ⟨_, rfl⟩
        have hf := letb_at hf v_13 ev_13
        refine lv_iinc (v := v_13) (lv' := [(3, .int v_13), (2, .int z0), (0, .ref (ad 0)), (1, .int y1)]) hx hb dX6_first_50 hl (k := 3) rfl (by rw [ev_13]; rfl) (by decide) rfl (fun ls hl => ?_)
        refine lv_goto (tgt := 4) hx hb dX6_first_53 (by decide) ?_
        exact ih_4 y1 z0 v_13 ls hf (lv_sub hl [2, 3, 1, 0] rfl)
      have j_48 : ∀ (y1 : Int32) (y2 : Int32) (y3 : Int32) (ls : Array Slot), fX6_first_c48 (fX6_first_c4 n_4) y1 y2 y3 G J = some r → lv_has ls 4 [(0, .ref (ad 0)), (1, .int y1), (2, .int y2), (3, .int y3)] → W p l e rmX6_first s m args below meth c s.heap [] 0 0 (QPI below args s r) (F0 m 48 ls []) := by
        intro y1 y2 y3  ls hf hl
        rw [fX6_first_c48] at hf
        refine lv_iload_n hx hb dX6_first_48 rfl (lv_at hl 2 rfl) ?_
        exact j_49 y1 y3 y2 ls hf (lv_sub hl [0, 1, 3] rfl)
      have j_44 : ∀ (y1 : Int32) (y3 : Int32) (ls : Array Slot), fX6_first_c44 (fX6_first_c4 n_4) y1 y3 G J = some r → lv_has ls 4 [(0, .ref (ad 0)), (1, .int y1), (3, .int y3)] → W p l e rmX6_first s m args below meth c s.heap [] 0 0 (QPI below args s r) (F0 m 44 ls []) := by
        intro y1 y3  ls hf hl
        rw [fX6_first_c44] at hf
        refine lv_iload_n hx hb dX6_first_44 rfl (lv_at hl 2 rfl) ?_
        refine lv_goto (tgt := 49) hx hb dX6_first_45 (by decide) ?_
        exact j_49 y1 y3 y3 ls hf (lv_sub hl [0, 1, 2] rfl)
      refine lv_iload_n hx hb dX6_first_4 rfl (lv_at hl 3 rfl) ?_
      refine lv_aload_n hx hb dX6_first_5 rfl (lv_at hl 0 rfl) ?_
      refine gf_RX6_7 C hE hH 0 rfl rfl dX6_first_6 ?_
      refine lv_bipush (v := 6) hx hb dX6_first_9 (by decide) ?_
      obtain ⟨hi_14, hf⟩ := grd_inv hf
      refine xiald C hE hH 1 rfl hi_14 dX6_first_11 ?_
      refine lv_icmp_ge (tgt := 56) hx hb dX6_first_12 (by decide) (fun c_15 => ?_) (fun c_15 => ?_)
      · have hf := if_p hf c_15
        exact j_56 y2 ls hf (lv_sub hl [2] rfl)
      · have hf := if_n hf c_15
        refine lv_aload_n hx hb dX6_first_15 rfl (lv_at hl 0 rfl) ?_
        refine lv_iload_n hx hb dX6_first_16 rfl (lv_at hl 3 rfl) ?_
        refine lv_iconst (v := 1) hx hb dX6_first_17 (by decide) ?_
        obtain ⟨r_16, hc_17, hf⟩ := bind_inv hf
        refine aftPI (runV C hE hA hH [0, 1, 2, 3, 4, 5, 6, 7, 8, 9, 10, 11] nC_M_M_0_11 (sC_M_M_0_11 g ad G J) (kX6_its l g ad _ G J y3 (1 : Int32) r_16  hc_17) tw_10_14 tw_10_15 tw_10_16 tw_1_5 tw_10_17 hdX6_its 0 rfl rfl rfl rfl ⟨Nat.le_of_ble_eq_true rfl, Nat.le_of_ble_eq_true rfl⟩ rfl hl.1 (rest := []) rfl (Nat.le_of_ble_eq_true rfl) dX6_first_18 ⟨Nat.zero_le _, Nat.zero_le _⟩) ?_
        refine lv_iload_n hx hb dX6_first_21 rfl (lv_at hl 1 rfl) ?_
        refine lv_icmp_ne (tgt := 48) hx hb dX6_first_22 (by decide) (fun c_18 => ?_) (fun c_18 => ?_)
        · have hf := if_n hf c_18
          exact j_48 y1 y2 y3 ls hf (lv_sub hl [0, 1, 2, 3] rfl)
        · have hf := if_p hf c_18
          refine lv_iload_n hx hb dX6_first_25 rfl (lv_at hl 2 rfl) ?_
          refine lv_if_lt (tgt := 44) hx hb dX6_first_26 (by decide) (fun c_19 => ?_) (fun c_19 => ?_)
          · have hf := if_p hf c_19
            exact j_44 y1 y3 ls hf (lv_sub hl [0, 1, 3] rfl)
          · have hf := if_n hf c_19
            refine lv_aload_n hx hb dX6_first_29 rfl (lv_at hl 0 rfl) ?_
            refine lv_iload_n hx hb dX6_first_30 rfl (lv_at hl 3 rfl) ?_
            refine lv_iconst (v := 2) hx hb dX6_first_31 (by decide) ?_
            obtain ⟨r_20, hc_21, hf⟩ := bind_inv hf
            refine aftPI (runV C hE hA hH [0, 1, 2, 3, 4, 5, 6, 7, 8, 9, 10, 11] nC_M_M_0_11 (sC_M_M_0_11 g ad G J) (kX6_its l g ad _ G J y3 (2 : Int32) r_20  hc_21) tw_10_14 tw_10_15 tw_10_16 tw_1_5 tw_10_17 hdX6_its 0 rfl rfl rfl rfl ⟨Nat.le_of_ble_eq_true rfl, Nat.le_of_ble_eq_true rfl⟩ rfl hl.1 (rest := []) rfl (Nat.le_of_ble_eq_true rfl) dX6_first_32 ⟨Nat.zero_le _, Nat.zero_le _⟩) ?_
            refine lv_aload_n hx hb dX6_first_35 rfl (lv_at hl 0 rfl) ?_
            refine lv_iload_n hx hb dX6_first_36 rfl (lv_at hl 2 rfl) ?_
            refine lv_iconst (v := 2) hx hb dX6_first_37 (by decide) ?_
            obtain ⟨r_22, hc_23, hf⟩ := bind_inv hf
            refine aftPI (runV C hE hA hH [0, 1, 2, 3, 4, 5, 6, 7, 8, 9, 10, 11] nC_M_M_0_11 (sC_M_M_0_11 g ad G J) (kX6_its l g ad _ G J y2 (2 : Int32) r_22  hc_23) tw_10_14 tw_10_15 tw_10_16 tw_1_5 tw_10_17 hdX6_its 0 rfl rfl rfl rfl ⟨Nat.le_of_ble_eq_true rfl, Nat.le_of_ble_eq_true rfl⟩ rfl hl.1 (rest := [.int r_20]) rfl (Nat.le_of_ble_eq_true rfl) dX6_first_38 ⟨Nat.zero_le _, Nat.zero_le _⟩) ?_
            refine lv_icmp_ge (tgt := 48) hx hb dX6_first_41 (by decide) (fun c_24 => ?_) (fun c_24 => ?_)
            · have hf := if_p hf c_24
              exact j_48 y1 y2 y3 ls hf (lv_sub hl [0, 1, 2, 3] rfl)
            · have hf := if_n hf c_24
              exact j_44 y1 y3 ls hf (lv_sub hl [0, 1, 3] rfl)
  refine lv_iconst (v := (-1)) hx hb dX6_first_0 (by decide) ?_
  refine lv_istore_n (lv' := [(2, .int (-1 : Int32)), (0, .ref (ad 0)), (1, .int x1)]) hx hb dX6_first_1 rfl hl (by decide) rfl (fun ls hl => ?_)
  refine lv_iconst (v := 0) hx hb dX6_first_2 (by decide) ?_
  refine lv_istore_n (lv' := [(3, .int (0 : Int32)), (2, .int (-1 : Int32)), (0, .ref (ad 0)), (1, .int x1)]) hx hb dX6_first_3 rfl hl (by decide) rfl (fun ls hl => ?_)
  exact lp_4 _ x1 (-1 : Int32) (0 : Int32) ls hf (lv_sub hl [2, 3, 1, 0] rfl)
def fX6_learnt_c55  (y3 : Int32) : Option (Int32) := some y3
def fX6_learnt_c49 (k_8 : Int32 → Int32 → Int32 → Int32 → Int32 → Option (Int32)) (y0 : Int32) (y1 : Int32) (y3 : Int32) (y4 : Int32) (y5 : Int32) : Option (Int32) := letb (y5 + (1 : Int32)) (fun v_8 : Int32 => k_8 y0 y1 y3 y4 v_8)
def fX6_learnt_c8  : Nat → Int32 → Int32 → Int32 → Int32 → Int32 → Option (Int32)
  | 0, _, _, _, _, _ => none
  | n + 1, y0, y1, y3, y4, y5 => (if (9 : Int32) ≤ y5 then fX6_learnt_c55  y3 else (if y4 ≤ 0 then fX6_learnt_c55  y3 else (if ((y0 >>> (y5 &&& 31)) &&& (1 : Int32)) = (1 : Int32) then (if ((y1 >>> (y5 &&& 31)) &&& (1 : Int32)) = 0 then letb (y3 ||| ((1 : Int32) <<< (y5 &&& 31))) (fun v_13 : Int32 => letb (y4 + (-1 : Int32)) (fun v_14 : Int32 => fX6_learnt_c49 (fX6_learnt_c8 n) y0 y1 v_13 v_14 y5)) else fX6_learnt_c49 (fX6_learnt_c8 n) y0 y1 y3 y4 y5) else fX6_learnt_c49 (fX6_learnt_c8 n) y0 y1 y3 y4 y5)))
def fX6_learnt (x1 : Int32) (x2 : Int32) (x3 : Int32) : Option (Int32) := fX6_learnt_c8  FU x1 x2 (0 : Int32) x3 (0 : Int32)
def rmX6_learnt : Room := { frames := 0, cells := 0, slots := 0, locals := 0 }
theorem hdX6_learnt : yX6_learnt.cls = yX6_learnt.cls ∧ yX6_learnt.cls ≠ "java/lang/invoke/MethodHandle" ∧ yX6_learnt.cls ≠ "java/lang/invoke/VarHandle" ∧ (parseMethodDescriptor yX6_learnt.desc).map (fun d => d.parameters.length) = some 3 := by decide +kernel
set_option maxHeartbeats 4000000 in
set_option maxRecDepth 100000 in
theorem kX6_learnt (l : Launch) (g : Gl) (ad : Nat → Nat) (sz : Nat)  (x1 : Int32) (x2 : Int32) (x3 : Int32) (r : Int32)  (hf : fX6_learnt x1 x2 x3 = some r) : MetPI l yX6_learnt (Cond.code yX6_learnt cX6_learnt 6 (some .int) :: wsL_law) rmX6_learnt [.int x1, .int x2, .int x3] g ([]) sz r := by
  refine openPI (by decide +kernel) (Nat.le_of_ble_eq_true rfl) ?_
  intro p e s m args below meth c A C hE hA hH ls hl
  have hl : lv_has ls 6 [(0, .int x1), (1, .int x2), (2, .int x3)] := hl
  have C : Cx p s m args meth c cX6_learnt 6 (some .int) RX6 := C
  obtain ⟨hx, hb, hml, hown, hT, hr, hlk⟩ := id C
  rw [fX6_learnt] at hf
  have lp_8 : ∀ (n_8 : Nat) (y0 : Int32) (y1 : Int32) (y3 : Int32) (y4 : Int32) (y5 : Int32) (ls : Array Slot), fX6_learnt_c8  n_8 y0 y1 y3 y4 y5 = some r → lv_has ls 6 [(0, .int y0), (1, .int y1), (3, .int y3), (4, .int y4), (5, .int y5)] → W p l e rmX6_learnt s m args below meth c s.heap [] 0 0 (QPI below args s r) (F0 m 8 ls []) := by
    intro n_8
    induction n_8 with
    | zero =>
      intro y0 y1 y3 y4 y5  ls hf hl
      rw [fX6_learnt_c8] at hf
      cases hf
    | succ n_8 ih_8 =>
      intro y0 y1 y3 y4 y5  ls hf hl
      rw [fX6_learnt_c8] at hf
      have j_55 : ∀ (y3 : Int32) (ls : Array Slot), fX6_learnt_c55  y3 = some r → lv_has ls 6 [(3, .int y3)] → W p l e rmX6_learnt s m args below meth c s.heap [] 0 0 (QPI below args s r) (F0 m 55 ls []) := by
        intro y3  ls hf hl
        rw [fX6_learnt_c55] at hf
        refine lv_iload_n hx hb dX6_learnt_55 rfl (lv_at hl 0 rfl) ?_
        have h1 := Option.some.inj hf
        subst h1
        exact retPI C rfl dX6_learnt_56
      have j_49 : ∀ (y0 : Int32) (y1 : Int32) (y3 : Int32) (y4 : Int32) (y5 : Int32) (ls : Array Slot), fX6_learnt_c49 (fX6_learnt_c8 n_8) y0 y1 y3 y4 y5 = some r → lv_has ls 6 [(0, .int y0), (1, .int y1), (3, .int y3), (4, .int y4), (5, .int y5)] → W p l e rmX6_learnt s m args below meth c s.heap [] 0 0 (QPI below args s r) (F0 m 49 ls []) := by
        intro y0 y1 y3 y4 y5  ls hf hl
        rw [fX6_learnt_c49] at hf
        obtain ⟨v_8, ev_8⟩ : ∃ z : Int32, z = y5 + (1 : Int32) := ⟨_, rfl⟩
        have hf := letb_at hf v_8 ev_8
        refine lv_iinc (v := v_8) (lv' := [(5, .int v_8), (0, .int y0), (1, .int y1), (3, .int y3), (4, .int y4)]) hx hb dX6_learnt_49 hl (k := 4) rfl (by rw [ev_8]; rfl) (by decide) rfl (fun ls hl => ?_)
        refine lv_goto (tgt := 8) hx hb dX6_learnt_52 (by decide) ?_
        exact ih_8 y0 y1 y3 y4 v_8 ls hf (lv_sub hl [1, 2, 3, 4, 0] rfl)
      refine lv_iload hx hb dX6_learnt_8 (lv_at hl 4 rfl) ?_
      refine lv_bipush (v := 9) hx hb dX6_learnt_10 (by decide) ?_
      refine lv_icmp_ge (tgt := 55) hx hb dX6_learnt_12 (by decide) (fun c_9 => ?_) (fun c_9 => ?_)
      · have hf := if_p hf c_9
        exact j_55 y3 ls hf (lv_sub hl [2] rfl)
      · have hf := if_n hf c_9
        refine lv_iload hx hb dX6_learnt_15 (lv_at hl 3 rfl) ?_
        refine lv_if_le (tgt := 55) hx hb dX6_learnt_17 (by decide) (fun c_10 => ?_) (fun c_10 => ?_)
        · have hf := if_p hf c_10
          exact j_55 y3 ls hf (lv_sub hl [2] rfl)
        · have hf := if_n hf c_10
          refine lv_iload_n hx hb dX6_learnt_20 rfl (lv_at hl 0 rfl) ?_
          refine lv_iload hx hb dX6_learnt_21 (lv_at hl 4 rfl) ?_
          refine lv_ishr hx hb dX6_learnt_23 ?_
          refine lv_iconst (v := 1) hx hb dX6_learnt_24 (by decide) ?_
          refine lv_iand hx hb dX6_learnt_25 ?_
          refine lv_iconst (v := 1) hx hb dX6_learnt_26 (by decide) ?_
          refine lv_icmp_ne (tgt := 49) hx hb dX6_learnt_27 (by decide) (fun c_11 => ?_) (fun c_11 => ?_)
          · have hf := if_n hf c_11
            exact j_49 y0 y1 y3 y4 y5 ls hf (lv_sub hl [0, 1, 2, 3, 4] rfl)
          · have hf := if_p hf c_11
            refine lv_iload_n hx hb dX6_learnt_30 rfl (lv_at hl 1 rfl) ?_
            refine lv_iload hx hb dX6_learnt_31 (lv_at hl 4 rfl) ?_
            refine lv_ishr hx hb dX6_learnt_33 ?_
            refine lv_iconst (v := 1) hx hb dX6_learnt_34 (by decide) ?_
            refine lv_iand hx hb dX6_learnt_35 ?_
            refine lv_if_ne (tgt := 49) hx hb dX6_learnt_36 (by decide) (fun c_12 => ?_) (fun c_12 => ?_)
            · have hf := if_n hf c_12
              exact j_49 y0 y1 y3 y4 y5 ls hf (lv_sub hl [0, 1, 2, 3, 4] rfl)
            · have hf := if_p hf c_12
              refine lv_iload_n hx hb dX6_learnt_39 rfl (lv_at hl 2 rfl) ?_
              refine lv_iconst (v := 1) hx hb dX6_learnt_40 (by decide) ?_
              refine lv_iload hx hb dX6_learnt_41 (lv_at hl 4 rfl) ?_
              refine lv_ishl hx hb dX6_learnt_43 ?_
              refine lv_ior hx hb dX6_learnt_44 ?_
              refine lv_topi (fun v_13 ev_13 => ?_)
              have hf := letb_at hf v_13 ev_13
              refine lv_istore_n (lv' := [(3, .int v_13), (0, .int y0), (1, .int y1), (4, .int y4), (5, .int y5)]) hx hb dX6_learnt_45 rfl hl (by decide) rfl (fun ls hl => ?_)
              obtain ⟨v_14, ev_14⟩ : ∃ z : Int32, z = y4 + (-1 : Int32) := ⟨_, rfl⟩
              have hf := letb_at hf v_14 ev_14
              refine lv_iinc (v := v_14) (lv' := [(4, .int v_14), (3, .int v_13), (0, .int y0), (1, .int y1), (5, .int y5)]) hx hb dX6_learnt_46 hl (k := 3) rfl (by rw [ev_14]; rfl) (by decide) rfl (fun ls hl => ?_)
              exact j_49 y0 y1 v_13 v_14 y5 ls hf (lv_sub hl [2, 3, 1, 0, 4] rfl)
  refine lv_iconst (v := 0) hx hb dX6_learnt_0 (by decide) ?_
  refine lv_istore_n (lv' := [(3, .int (0 : Int32)), (0, .int x1), (1, .int x2), (2, .int x3)]) hx hb dX6_learnt_1 rfl hl (by decide) rfl (fun ls hl => ?_)
  refine lv_iload_n hx hb dX6_learnt_2 rfl (lv_at hl 3 rfl) ?_
  refine lv_istore (lv' := [(4, .int x3), (3, .int (0 : Int32)), (0, .int x1), (1, .int x2), (2, .int x3)]) hx hb dX6_learnt_3 hl (by decide) rfl (fun ls hl => ?_)
  refine lv_iconst (v := 0) hx hb dX6_learnt_5 (by decide) ?_
  refine lv_istore (lv' := [(5, .int (0 : Int32)), (4, .int x3), (3, .int (0 : Int32)), (0, .int x1), (1, .int x2), (2, .int x3)]) hx hb dX6_learnt_6 hl (by decide) rfl (fun ls hl => ?_)
  exact lp_8 _ x1 x2 (0 : Int32) x3 (0 : Int32) ls hf (lv_sub hl [3, 4, 2, 1, 0] rfl)
def fX6_relieves_c185  (y2 : Int32) (y3 : Int32) (G : M2) (J : J2) : Option (M2) := (fX6_puts y2 (1 : Int32) (1 : Int32) G J).bind (fun (G_59 : M2) => grd (inb (0 : Int32) 75) ((fX6_puts y2 (2 : Int32) ((G_59 1 (0 : Int32).toNatClampNeg) + (1 : Int32)) G_59 J).bind (fun (G_62 : M2) => letb (st2 G_62 0 (upd (G_62 0) 0 y2)) (fun G_64 : M2 => letb (st2 G_64 0 (upd (G_64 0) 1 y3)) (fun G_65 : M2 => some G_65)))))
def fX6_relieves_c31  (y1 : Int32) (y2 : Int32) (z0 : Int32) (G : M2) (J : J2) : Option (M2) := grd (inb (2 : Int32) 75) ((fX6_brings y2 y1 G J).bind (fun (r_67 : Int32) => (fX6_held ((G 1 (2 : Int32).toNatClampNeg) + r_67) (0 : Int32) (9999 : Int32)).bind (fun (r_69 : Int32) => grd (inb (2 : Int32) 75) (letb (st2 G 1 (upd (G 1) (2 : Int32).toNatClampNeg r_69)) (fun G_72 : M2 => (if z0 < 0 then fX6_relieves_c185  y2 z0 G_72 J else (fX6_its y2 (3 : Int32) G_72 J).bind (fun (r_74 : Int32) => (fX6_its z0 (3 : Int32) G_72 J).bind (fun (r_76 : Int32) => (fX6_tells y2 y1 G_72 J).bind (fun (r_78 : Int32) => (fX6_learnt r_74 r_76 r_78).bind (fun (r_80 : Int32) => (fX6_puts z0 (3 : Int32) (r_76 ||| r_80) G_72 J).bind (fun (G_82 : M2) => (fX6_tells z0 y1 G_82 J).bind (fun (r_84 : Int32) => (fX6_learnt r_76 r_74 r_84).bind (fun (r_86 : Int32) => (fX6_puts y2 (3 : Int32) (r_74 ||| r_86) G_82 J).bind (fun (G_88 : M2) => (fX6_its y2 (4 : Int32) G_88 J).bind (fun (r_90 : Int32) => (fX6_held (r_90 + (1 : Int32)) (0 : Int32) (9999 : Int32)).bind (fun (r_92 : Int32) => (fX6_puts y2 (4 : Int32) r_92 G_88 J).bind (fun (G_94 : M2) => (fX6_its z0 (4 : Int32) G_94 J).bind (fun (r_96 : Int32) => (fX6_held (r_96 + (1 : Int32)) (0 : Int32) (9999 : Int32)).bind (fun (r_98 : Int32) => (fX6_puts z0 (4 : Int32) r_98 G_94 J).bind (fun (G_100 : M2) => (fX6_puts z0 (1 : Int32) (0 : Int32) G_100 J).bind (fun (G_102 : M2) => grd (inb (0 : Int32) 75) ((fX6_puts z0 (2 : Int32) ((G_102 1 (0 : Int32).toNatClampNeg) + (1 : Int32)) G_102 J).bind (fun (G_105 : M2) => fX6_relieves_c185  y2 z0 G_105 J)))))))))))))))))))))))
def fX6_relieves (x1 : Int32) (G : M2) (J : J2) : Option (M2) := (fX6_first (0 : Int32) G J).bind (fun (r_107 : Int32) => (fX6_onSet G J).bind (fun (r_109 : Int32) => (fX6_bits r_109).bind (fun (r_111 : Int32) => grd (inb (3 : Int32) 75) ((if r_111 < (G 1 (3 : Int32).toNatClampNeg) then fX6_relieves_c31  x1 r_107 (-1 : Int32) G J else (fX6_first (1 : Int32) G J).bind (fun (r_115 : Int32) => fX6_relieves_c31  x1 r_107 r_115 G J))))))
def rmX6_relieves : Room := { frames := 2, cells := 0, slots := 0, locals := 45 }
theorem hdX6_relieves : yX6_relieves.cls = yX6_relieves.cls ∧ yX6_relieves.cls ≠ "java/lang/invoke/MethodHandle" ∧ yX6_relieves.cls ≠ "java/lang/invoke/VarHandle" ∧ (parseMethodDescriptor yX6_relieves.desc).map (fun d => d.parameters.length) = some 1 := by decide +kernel
set_option maxHeartbeats 4000000 in
set_option maxRecDepth 100000 in
theorem kX6_relieves (l : Launch) (g : Gl) (ad : Nat → Nat) (sz : Nat) (G : M2) (J : J2) (x1 : Int32) (G' : M2)  (hf : fX6_relieves x1 G J = some G') : MetV l yX6_relieves (Cond.code yX6_relieves cX6_relieves 6 none :: wsL_law) rmX6_relieves [.ref (ad 0), .int x1] g (wM g ad G J) sz (wM g ad G' J) := by
  refine openV (by decide +kernel) (Nat.le_of_ble_eq_true rfl) ?_
  intro p e s m args below meth c A C hE hA hH ls hl
  have hl : lv_has ls 6 [(0, .ref (ad 0)), (1, .int x1)] := hl
  have C : Cx p s m args meth c cX6_relieves 6 none RX6 := C
  obtain ⟨hx, hb, hml, hown, hT, hr, hlk⟩ := id C
  rw [fX6_relieves] at hf
  have j_31 : ∀ (y1 : Int32) (y2 : Int32) (z0 : Int32) (G : M2) (H : Heap) (locs : List Loc) (ls : Array Slot), fX6_relieves_c31  y1 y2 z0 G J = some G' → Hp g A s H locs (wM g ad G J) → lv_has ls 6 [(0, .ref (ad 0)), (1, .int y1), (2, .int y2)] → W p l e rmX6_relieves s m args below meth c H locs 0 0 (QV g A below args s (wM g ad G' J)) (F0 m 31 ls [.int z0]) := by
    intro y1 y2 z0 G H locs  ls hf hH hl
    rw [fX6_relieves_c31] at hf
    have j_185 : ∀ (y2 : Int32) (y3 : Int32) (G : M2) (H : Heap) (locs : List Loc) (ls : Array Slot), fX6_relieves_c185  y2 y3 G J = some G' → Hp g A s H locs (wM g ad G J) → lv_has ls 6 [(0, .ref (ad 0)), (2, .int y2), (3, .int y3)] → W p l e rmX6_relieves s m args below meth c H locs 0 0 (QV g A below args s (wM g ad G' J)) (F0 m 185 ls []) := by
      intro y2 y3 G H locs  ls hf hH hl
      rw [fX6_relieves_c185] at hf
      refine lv_aload_n hx hb dX6_relieves_185 rfl (lv_at hl 0 rfl) ?_
      refine lv_iload_n hx hb dX6_relieves_186 rfl (lv_at hl 1 rfl) ?_
      refine lv_iconst (v := 1) hx hb dX6_relieves_187 (by decide) ?_
      refine lv_iconst (v := 1) hx hb dX6_relieves_188 (by decide) ?_
      obtain ⟨G_59, hc_60, hf⟩ := bind_inv hf
      refine aftV (runV C hE hA hH [0, 1, 2, 3, 4, 5, 6, 7, 8, 9, 10, 11] nC_M_M_0_11 (sC_M_M_0_11 g ad G J) (kX6_puts l g ad _ G J y2 (1 : Int32) (1 : Int32) G_59  hc_60) tw_8_17 tw_8_18 tw_8_19 tw_1_5 tw_8_20 hdX6_puts 0 rfl rfl rfl rfl ⟨Nat.le_of_ble_eq_true rfl, Nat.le_of_ble_eq_true rfl⟩ rfl hl.1 (rest := []) rfl (Nat.le_of_ble_eq_true rfl) dX6_relieves_189 ⟨Nat.zero_le _, Nat.zero_le _⟩) hA hH [0, 1, 2, 3, 4, 5, 6, 7, 8, 9, 10, 11] [] (sC_M_M_0_11 g ad G J) (sR_M_M_0_11 g ad G J) nR_M_M_0_11 dj_M_M_0_11 [0, 1, 2, 3, 4, 5, 6, 7, 8, 9, 10, 11] nP_M_M_0_11 (sP_M_M_0_11 g ad G J G_59 J) (fun H locs hH => ?_)
      refine lv_aload_n hx hb dX6_relieves_192 rfl (lv_at hl 0 rfl) ?_
      refine lv_iload_n hx hb dX6_relieves_193 rfl (lv_at hl 1 rfl) ?_
      refine lv_iconst (v := 2) hx hb dX6_relieves_194 (by decide) ?_
      refine lv_aload_n hx hb dX6_relieves_195 rfl (lv_at hl 0 rfl) ?_
      refine gf_RX6_7 C hE hH 0 rfl rfl dX6_relieves_196 ?_
      refine lv_iconst (v := 0) hx hb dX6_relieves_199 (by decide) ?_
      obtain ⟨hi_61, hf⟩ := grd_inv hf
      refine xiald C hE hH 1 rfl hi_61 dX6_relieves_200 ?_
      refine lv_iconst (v := 1) hx hb dX6_relieves_201 (by decide) ?_
      refine lv_iadd hx hb dX6_relieves_202 ?_
      obtain ⟨G_62, hc_63, hf⟩ := bind_inv hf
      refine aftV (runV C hE hA hH [0, 1, 2, 3, 4, 5, 6, 7, 8, 9, 10, 11] nC_M_M_0_11 (sC_M_M_0_11 g ad G_59 J) (kX6_puts l g ad _ G_59 J y2 (2 : Int32) ((G_59 1 (0 : Int32).toNatClampNeg) + (1 : Int32)) G_62  hc_63) tw_8_17 tw_8_18 tw_8_19 tw_1_5 tw_8_20 hdX6_puts 0 rfl rfl rfl rfl ⟨Nat.le_of_ble_eq_true rfl, Nat.le_of_ble_eq_true rfl⟩ rfl hl.1 (rest := []) rfl (Nat.le_of_ble_eq_true rfl) dX6_relieves_203 ⟨Nat.zero_le _, Nat.zero_le _⟩) hA hH [0, 1, 2, 3, 4, 5, 6, 7, 8, 9, 10, 11] [] (sC_M_M_0_11 g ad G_59 J) (sR_M_M_0_11 g ad G_59 J) nR_M_M_0_11 dj_M_M_0_11 [0, 1, 2, 3, 4, 5, 6, 7, 8, 9, 10, 11] nP_M_M_0_11 (sP_M_M_0_11 g ad G_59 J G_62 J) (fun H locs hH => ?_)
      refine lv_aload_n hx hb dX6_relieves_206 rfl (lv_at hl 0 rfl) ?_
      refine lv_iload_n hx hb dX6_relieves_207 rfl (lv_at hl 1 rfl) ?_
      refine pf_RX6_114 C hE hH 0 rfl rfl rfl (Nat.le_of_ble_eq_true rfl) (fun q : M2 => wM g ad q J) (st2 G_62 0 (upd (G_62 0) 0 y2)) rfl dX6_relieves_208 (fun G_64 eG_64 H locs hH => ?_)
      have hf := letb_at hf G_64 eG_64
      refine lv_aload_n hx hb dX6_relieves_211 rfl (lv_at hl 0 rfl) ?_
      refine lv_iload_n hx hb dX6_relieves_212 rfl (lv_at hl 2 rfl) ?_
      refine pf_RX6_118 C hE hH 0 rfl rfl rfl (Nat.le_of_ble_eq_true rfl) (fun q : M2 => wM g ad q J) (st2 G_64 0 (upd (G_64 0) 1 y3)) rfl dX6_relieves_213 (fun G_65 eG_65 H locs hH => ?_)
      have hf := letb_at hf G_65 eG_65
      have h1 := Option.some.inj hf
      subst h1
      exact retV C hH dX6_relieves_216
    refine lv_istore_n (lv' := [(3, .int z0), (0, .ref (ad 0)), (1, .int y1), (2, .int y2)]) hx hb dX6_relieves_31 rfl hl (by decide) rfl (fun ls hl => ?_)
    refine lv_aload_n hx hb dX6_relieves_32 rfl (lv_at hl 1 rfl) ?_
    refine gf_RX6_7 C hE hH 0 rfl rfl dX6_relieves_33 ?_
    refine lv_iconst (v := 2) hx hb dX6_relieves_36 (by decide) ?_
    refine lv_aload_n hx hb dX6_relieves_37 rfl (lv_at hl 1 rfl) ?_
    refine gf_RX6_7 C hE hH 0 rfl rfl dX6_relieves_38 ?_
    refine lv_iconst (v := 2) hx hb dX6_relieves_41 (by decide) ?_
    obtain ⟨hi_66, hf⟩ := grd_inv hf
    refine xiald C hE hH 1 rfl hi_66 dX6_relieves_42 ?_
    refine lv_aload_n hx hb dX6_relieves_43 rfl (lv_at hl 1 rfl) ?_
    refine lv_iload_n hx hb dX6_relieves_44 rfl (lv_at hl 3 rfl) ?_
    refine lv_iload_n hx hb dX6_relieves_45 rfl (lv_at hl 2 rfl) ?_
    obtain ⟨r_67, hc_68, hf⟩ := bind_inv hf
    refine aftPI (runV C hE hA hH [0, 1, 2, 3, 4, 5, 6, 7, 8, 9, 10, 11] nC_M_M_0_11 (sC_M_M_0_11 g ad G J) (kX6_brings l g ad _ G J y2 y1 r_67  hc_68) tw_11_16 tw_11_17 tw_11_18 tw_1_5 tw_11_19 hdX6_brings 0 rfl rfl rfl rfl ⟨Nat.le_of_ble_eq_true rfl, Nat.le_of_ble_eq_true rfl⟩ rfl hl.1 (rest := [.int (G 1 (2 : Int32).toNatClampNeg), .int (2 : Int32), .ref (ad 1)]) rfl (Nat.le_of_ble_eq_true rfl) dX6_relieves_46 ⟨Nat.zero_le _, Nat.zero_le _⟩) ?_
    refine lv_iadd hx hb dX6_relieves_49 ?_
    refine lv_iconst (v := 0) hx hb dX6_relieves_50 (by decide) ?_
    refine lv_sipush (v := 9999) hx hb dX6_relieves_51 (by decide) ?_
    obtain ⟨r_69, hc_70, hf⟩ := bind_inv hf
    refine aftPI (runS C hE hA hH [] rfl rfl (kX6_held l g ad _ ((G 1 (2 : Int32).toNatClampNeg) + r_67) (0 : Int32) (9999 : Int32) r_69  hc_70) tw_16_23 tw_17_0 tw_1_5 tw_17_1 hdX6_held rfl rfl ⟨Nat.le_of_ble_eq_true rfl, Nat.le_of_ble_eq_true rfl⟩ rfl hl.1 (rest := [.int (2 : Int32), .ref (ad 1)]) rfl (Nat.le_of_ble_eq_true rfl) dX6_relieves_54 ⟨Nat.zero_le _, Nat.zero_le _⟩) ?_
    obtain ⟨hi_71, hf⟩ := grd_inv hf
    refine xiast C hE hH 1 rfl hi_71 (fun q : M2 => wM g ad q J) (st2 G 1 (upd (G 1) (2 : Int32).toNatClampNeg r_69)) rfl dX6_relieves_57 (fun G_72 eG_72 H locs hH => ?_)
    have hf := letb_at hf G_72 eG_72
    refine lv_iload_n hx hb dX6_relieves_58 rfl (lv_at hl 0 rfl) ?_
    refine lv_if_lt (tgt := 185) hx hb dX6_relieves_59 (by decide) (fun c_73 => ?_) (fun c_73 => ?_)
    · have hf := if_p hf c_73
      exact j_185 y2 z0 G_72 _ _ ls hf hH (lv_sub hl [1, 3, 0] rfl)
    · have hf := if_n hf c_73
      refine lv_aload_n hx hb dX6_relieves_62 rfl (lv_at hl 1 rfl) ?_
      refine lv_iload_n hx hb dX6_relieves_63 rfl (lv_at hl 3 rfl) ?_
      refine lv_iconst (v := 3) hx hb dX6_relieves_64 (by decide) ?_
      obtain ⟨r_74, hc_75, hf⟩ := bind_inv hf
      refine aftPI (runV C hE hA hH [0, 1, 2, 3, 4, 5, 6, 7, 8, 9, 10, 11] nC_M_M_0_11 (sC_M_M_0_11 g ad G_72 J) (kX6_its l g ad _ G_72 J y2 (3 : Int32) r_74  hc_75) tw_10_14 tw_10_15 tw_10_16 tw_1_5 tw_10_17 hdX6_its 0 rfl rfl rfl rfl ⟨Nat.le_of_ble_eq_true rfl, Nat.le_of_ble_eq_true rfl⟩ rfl hl.1 (rest := []) rfl (Nat.le_of_ble_eq_true rfl) dX6_relieves_65 ⟨Nat.zero_le _, Nat.zero_le _⟩) ?_
      refine lv_istore (lv' := [(4, .int r_74), (3, .int z0), (0, .ref (ad 0)), (1, .int y1), (2, .int y2)]) hx hb dX6_relieves_68 hl (by decide) rfl (fun ls hl => ?_)
      refine lv_aload_n hx hb dX6_relieves_70 rfl (lv_at hl 2 rfl) ?_
      refine lv_iload_n hx hb dX6_relieves_71 rfl (lv_at hl 1 rfl) ?_
      refine lv_iconst (v := 3) hx hb dX6_relieves_72 (by decide) ?_
      obtain ⟨r_76, hc_77, hf⟩ := bind_inv hf
      refine aftPI (runV C hE hA hH [0, 1, 2, 3, 4, 5, 6, 7, 8, 9, 10, 11] nC_M_M_0_11 (sC_M_M_0_11 g ad G_72 J) (kX6_its l g ad _ G_72 J z0 (3 : Int32) r_76  hc_77) tw_10_14 tw_10_15 tw_10_16 tw_1_5 tw_10_17 hdX6_its 0 rfl rfl rfl rfl ⟨Nat.le_of_ble_eq_true rfl, Nat.le_of_ble_eq_true rfl⟩ rfl hl.1 (rest := []) rfl (Nat.le_of_ble_eq_true rfl) dX6_relieves_73 ⟨Nat.zero_le _, Nat.zero_le _⟩) ?_
      refine lv_istore (lv' := [(5, .int r_76), (4, .int r_74), (3, .int z0), (0, .ref (ad 0)), (1, .int y1), (2, .int y2)]) hx hb dX6_relieves_76 hl (by decide) rfl (fun ls hl => ?_)
      refine lv_aload_n hx hb dX6_relieves_78 rfl (lv_at hl 3 rfl) ?_
      refine lv_iload_n hx hb dX6_relieves_79 rfl (lv_at hl 2 rfl) ?_
      refine lv_iconst (v := 3) hx hb dX6_relieves_80 (by decide) ?_
      refine lv_iload hx hb dX6_relieves_81 (lv_at hl 0 rfl) ?_
      refine lv_iload hx hb dX6_relieves_83 (lv_at hl 1 rfl) ?_
      refine lv_iload hx hb dX6_relieves_85 (lv_at hl 0 rfl) ?_
      refine lv_aload_n hx hb dX6_relieves_87 rfl (lv_at hl 3 rfl) ?_
      refine lv_iload_n hx hb dX6_relieves_88 rfl (lv_at hl 5 rfl) ?_
      refine lv_iload_n hx hb dX6_relieves_89 rfl (lv_at hl 4 rfl) ?_
      obtain ⟨r_78, hc_79, hf⟩ := bind_inv hf
      refine aftPI (runV C hE hA hH [0, 1, 2, 3, 4, 5, 6, 7, 8, 9, 10, 11] nC_M_M_0_11 (sC_M_M_0_11 g ad G_72 J) (kX6_tells l g ad _ G_72 J y2 y1 r_78  hc_79) tw_11_20 tw_11_21 tw_11_22 tw_1_5 tw_11_23 hdX6_tells 0 rfl rfl rfl rfl ⟨Nat.le_of_ble_eq_true rfl, Nat.le_of_ble_eq_true rfl⟩ rfl hl.1 (rest := [.int r_76, .int r_74, .int r_76, .int (3 : Int32), .int z0, .ref (ad 0)]) rfl (Nat.le_of_ble_eq_true rfl) dX6_relieves_90 ⟨Nat.zero_le _, Nat.zero_le _⟩) ?_
      obtain ⟨r_80, hc_81, hf⟩ := bind_inv hf
      refine aftPI (runS C hE hA hH [] rfl rfl (kX6_learnt l g ad _ r_74 r_76 r_78 r_80  hc_81) tw_17_17 tw_17_18 tw_1_5 tw_17_19 hdX6_learnt rfl rfl ⟨Nat.le_of_ble_eq_true rfl, Nat.le_of_ble_eq_true rfl⟩ rfl hl.1 (rest := [.int r_76, .int (3 : Int32), .int z0, .ref (ad 0)]) rfl (Nat.le_of_ble_eq_true rfl) dX6_relieves_93 ⟨Nat.zero_le _, Nat.zero_le _⟩) ?_
      refine lv_ior hx hb dX6_relieves_96 ?_
      obtain ⟨G_82, hc_83, hf⟩ := bind_inv hf
      refine aftV (runV C hE hA hH [0, 1, 2, 3, 4, 5, 6, 7, 8, 9, 10, 11] nC_M_M_0_11 (sC_M_M_0_11 g ad G_72 J) (kX6_puts l g ad _ G_72 J z0 (3 : Int32) (r_76 ||| r_80) G_82  hc_83) tw_8_17 tw_8_18 tw_8_19 tw_1_5 tw_8_20 hdX6_puts 0 rfl rfl rfl rfl ⟨Nat.le_of_ble_eq_true rfl, Nat.le_of_ble_eq_true rfl⟩ rfl hl.1 (rest := []) rfl (Nat.le_of_ble_eq_true rfl) dX6_relieves_97 ⟨Nat.zero_le _, Nat.zero_le _⟩) hA hH [0, 1, 2, 3, 4, 5, 6, 7, 8, 9, 10, 11] [] (sC_M_M_0_11 g ad G_72 J) (sR_M_M_0_11 g ad G_72 J) nR_M_M_0_11 dj_M_M_0_11 [0, 1, 2, 3, 4, 5, 6, 7, 8, 9, 10, 11] nP_M_M_0_11 (sP_M_M_0_11 g ad G_72 J G_82 J) (fun H locs hH => ?_)
      refine lv_aload_n hx hb dX6_relieves_100 rfl (lv_at hl 3 rfl) ?_
      refine lv_iload_n hx hb dX6_relieves_101 rfl (lv_at hl 5 rfl) ?_
      refine lv_iconst (v := 3) hx hb dX6_relieves_102 (by decide) ?_
      refine lv_iload hx hb dX6_relieves_103 (lv_at hl 1 rfl) ?_
      refine lv_iload hx hb dX6_relieves_105 (lv_at hl 0 rfl) ?_
      refine lv_iload hx hb dX6_relieves_107 (lv_at hl 1 rfl) ?_
      refine lv_aload_n hx hb dX6_relieves_109 rfl (lv_at hl 3 rfl) ?_
      refine lv_iload_n hx hb dX6_relieves_110 rfl (lv_at hl 2 rfl) ?_
      refine lv_iload_n hx hb dX6_relieves_111 rfl (lv_at hl 4 rfl) ?_
      obtain ⟨r_84, hc_85, hf⟩ := bind_inv hf
      refine aftPI (runV C hE hA hH [0, 1, 2, 3, 4, 5, 6, 7, 8, 9, 10, 11] nC_M_M_0_11 (sC_M_M_0_11 g ad G_82 J) (kX6_tells l g ad _ G_82 J z0 y1 r_84  hc_85) tw_11_20 tw_11_21 tw_11_22 tw_1_5 tw_11_23 hdX6_tells 0 rfl rfl rfl rfl ⟨Nat.le_of_ble_eq_true rfl, Nat.le_of_ble_eq_true rfl⟩ rfl hl.1 (rest := [.int r_74, .int r_76, .int r_74, .int (3 : Int32), .int y2, .ref (ad 0)]) rfl (Nat.le_of_ble_eq_true rfl) dX6_relieves_112 ⟨Nat.zero_le _, Nat.zero_le _⟩) ?_
      obtain ⟨r_86, hc_87, hf⟩ := bind_inv hf
      refine aftPI (runS C hE hA hH [] rfl rfl (kX6_learnt l g ad _ r_76 r_74 r_84 r_86  hc_87) tw_17_17 tw_17_18 tw_1_5 tw_17_19 hdX6_learnt rfl rfl ⟨Nat.le_of_ble_eq_true rfl, Nat.le_of_ble_eq_true rfl⟩ rfl hl.1 (rest := [.int r_74, .int (3 : Int32), .int y2, .ref (ad 0)]) rfl (Nat.le_of_ble_eq_true rfl) dX6_relieves_115 ⟨Nat.zero_le _, Nat.zero_le _⟩) ?_
      refine lv_ior hx hb dX6_relieves_118 ?_
      obtain ⟨G_88, hc_89, hf⟩ := bind_inv hf
      refine aftV (runV C hE hA hH [0, 1, 2, 3, 4, 5, 6, 7, 8, 9, 10, 11] nC_M_M_0_11 (sC_M_M_0_11 g ad G_82 J) (kX6_puts l g ad _ G_82 J y2 (3 : Int32) (r_74 ||| r_86) G_88  hc_89) tw_8_17 tw_8_18 tw_8_19 tw_1_5 tw_8_20 hdX6_puts 0 rfl rfl rfl rfl ⟨Nat.le_of_ble_eq_true rfl, Nat.le_of_ble_eq_true rfl⟩ rfl hl.1 (rest := []) rfl (Nat.le_of_ble_eq_true rfl) dX6_relieves_119 ⟨Nat.zero_le _, Nat.zero_le _⟩) hA hH [0, 1, 2, 3, 4, 5, 6, 7, 8, 9, 10, 11] [] (sC_M_M_0_11 g ad G_82 J) (sR_M_M_0_11 g ad G_82 J) nR_M_M_0_11 dj_M_M_0_11 [0, 1, 2, 3, 4, 5, 6, 7, 8, 9, 10, 11] nP_M_M_0_11 (sP_M_M_0_11 g ad G_82 J G_88 J) (fun H locs hH => ?_)
      refine lv_aload_n hx hb dX6_relieves_122 rfl (lv_at hl 3 rfl) ?_
      refine lv_iload_n hx hb dX6_relieves_123 rfl (lv_at hl 5 rfl) ?_
      refine lv_iconst (v := 4) hx hb dX6_relieves_124 (by decide) ?_
      refine lv_aload_n hx hb dX6_relieves_125 rfl (lv_at hl 3 rfl) ?_
      refine lv_iload_n hx hb dX6_relieves_126 rfl (lv_at hl 5 rfl) ?_
      refine lv_iconst (v := 4) hx hb dX6_relieves_127 (by decide) ?_
      obtain ⟨r_90, hc_91, hf⟩ := bind_inv hf
      refine aftPI (runV C hE hA hH [0, 1, 2, 3, 4, 5, 6, 7, 8, 9, 10, 11] nC_M_M_0_11 (sC_M_M_0_11 g ad G_88 J) (kX6_its l g ad _ G_88 J y2 (4 : Int32) r_90  hc_91) tw_10_14 tw_10_15 tw_10_16 tw_1_5 tw_10_17 hdX6_its 0 rfl rfl rfl rfl ⟨Nat.le_of_ble_eq_true rfl, Nat.le_of_ble_eq_true rfl⟩ rfl hl.1 (rest := [.int (4 : Int32), .int y2, .ref (ad 0)]) rfl (Nat.le_of_ble_eq_true rfl) dX6_relieves_128 ⟨Nat.zero_le _, Nat.zero_le _⟩) ?_
      refine lv_iconst (v := 1) hx hb dX6_relieves_131 (by decide) ?_
      refine lv_iadd hx hb dX6_relieves_132 ?_
      refine lv_iconst (v := 0) hx hb dX6_relieves_133 (by decide) ?_
      refine lv_sipush (v := 9999) hx hb dX6_relieves_134 (by decide) ?_
      obtain ⟨r_92, hc_93, hf⟩ := bind_inv hf
      refine aftPI (runS C hE hA hH [] rfl rfl (kX6_held l g ad _ (r_90 + (1 : Int32)) (0 : Int32) (9999 : Int32) r_92  hc_93) tw_16_23 tw_17_0 tw_1_5 tw_17_1 hdX6_held rfl rfl ⟨Nat.le_of_ble_eq_true rfl, Nat.le_of_ble_eq_true rfl⟩ rfl hl.1 (rest := [.int (4 : Int32), .int y2, .ref (ad 0)]) rfl (Nat.le_of_ble_eq_true rfl) dX6_relieves_137 ⟨Nat.zero_le _, Nat.zero_le _⟩) ?_
      obtain ⟨G_94, hc_95, hf⟩ := bind_inv hf
      refine aftV (runV C hE hA hH [0, 1, 2, 3, 4, 5, 6, 7, 8, 9, 10, 11] nC_M_M_0_11 (sC_M_M_0_11 g ad G_88 J) (kX6_puts l g ad _ G_88 J y2 (4 : Int32) r_92 G_94  hc_95) tw_8_17 tw_8_18 tw_8_19 tw_1_5 tw_8_20 hdX6_puts 0 rfl rfl rfl rfl ⟨Nat.le_of_ble_eq_true rfl, Nat.le_of_ble_eq_true rfl⟩ rfl hl.1 (rest := []) rfl (Nat.le_of_ble_eq_true rfl) dX6_relieves_140 ⟨Nat.zero_le _, Nat.zero_le _⟩) hA hH [0, 1, 2, 3, 4, 5, 6, 7, 8, 9, 10, 11] [] (sC_M_M_0_11 g ad G_88 J) (sR_M_M_0_11 g ad G_88 J) nR_M_M_0_11 dj_M_M_0_11 [0, 1, 2, 3, 4, 5, 6, 7, 8, 9, 10, 11] nP_M_M_0_11 (sP_M_M_0_11 g ad G_88 J G_94 J) (fun H locs hH => ?_)
      refine lv_aload_n hx hb dX6_relieves_143 rfl (lv_at hl 3 rfl) ?_
      refine lv_iload_n hx hb dX6_relieves_144 rfl (lv_at hl 2 rfl) ?_
      refine lv_iconst (v := 4) hx hb dX6_relieves_145 (by decide) ?_
      refine lv_aload_n hx hb dX6_relieves_146 rfl (lv_at hl 3 rfl) ?_
      refine lv_iload_n hx hb dX6_relieves_147 rfl (lv_at hl 2 rfl) ?_
      refine lv_iconst (v := 4) hx hb dX6_relieves_148 (by decide) ?_
      obtain ⟨r_96, hc_97, hf⟩ := bind_inv hf
      refine aftPI (runV C hE hA hH [0, 1, 2, 3, 4, 5, 6, 7, 8, 9, 10, 11] nC_M_M_0_11 (sC_M_M_0_11 g ad G_94 J) (kX6_its l g ad _ G_94 J z0 (4 : Int32) r_96  hc_97) tw_10_14 tw_10_15 tw_10_16 tw_1_5 tw_10_17 hdX6_its 0 rfl rfl rfl rfl ⟨Nat.le_of_ble_eq_true rfl, Nat.le_of_ble_eq_true rfl⟩ rfl hl.1 (rest := [.int (4 : Int32), .int z0, .ref (ad 0)]) rfl (Nat.le_of_ble_eq_true rfl) dX6_relieves_149 ⟨Nat.zero_le _, Nat.zero_le _⟩) ?_
      refine lv_iconst (v := 1) hx hb dX6_relieves_152 (by decide) ?_
      refine lv_iadd hx hb dX6_relieves_153 ?_
      refine lv_iconst (v := 0) hx hb dX6_relieves_154 (by decide) ?_
      refine lv_sipush (v := 9999) hx hb dX6_relieves_155 (by decide) ?_
      obtain ⟨r_98, hc_99, hf⟩ := bind_inv hf
      refine aftPI (runS C hE hA hH [] rfl rfl (kX6_held l g ad _ (r_96 + (1 : Int32)) (0 : Int32) (9999 : Int32) r_98  hc_99) tw_16_23 tw_17_0 tw_1_5 tw_17_1 hdX6_held rfl rfl ⟨Nat.le_of_ble_eq_true rfl, Nat.le_of_ble_eq_true rfl⟩ rfl hl.1 (rest := [.int (4 : Int32), .int z0, .ref (ad 0)]) rfl (Nat.le_of_ble_eq_true rfl) dX6_relieves_158 ⟨Nat.zero_le _, Nat.zero_le _⟩) ?_
      obtain ⟨G_100, hc_101, hf⟩ := bind_inv hf
      refine aftV (runV C hE hA hH [0, 1, 2, 3, 4, 5, 6, 7, 8, 9, 10, 11] nC_M_M_0_11 (sC_M_M_0_11 g ad G_94 J) (kX6_puts l g ad _ G_94 J z0 (4 : Int32) r_98 G_100  hc_101) tw_8_17 tw_8_18 tw_8_19 tw_1_5 tw_8_20 hdX6_puts 0 rfl rfl rfl rfl ⟨Nat.le_of_ble_eq_true rfl, Nat.le_of_ble_eq_true rfl⟩ rfl hl.1 (rest := []) rfl (Nat.le_of_ble_eq_true rfl) dX6_relieves_161 ⟨Nat.zero_le _, Nat.zero_le _⟩) hA hH [0, 1, 2, 3, 4, 5, 6, 7, 8, 9, 10, 11] [] (sC_M_M_0_11 g ad G_94 J) (sR_M_M_0_11 g ad G_94 J) nR_M_M_0_11 dj_M_M_0_11 [0, 1, 2, 3, 4, 5, 6, 7, 8, 9, 10, 11] nP_M_M_0_11 (sP_M_M_0_11 g ad G_94 J G_100 J) (fun H locs hH => ?_)
      refine lv_aload_n hx hb dX6_relieves_164 rfl (lv_at hl 3 rfl) ?_
      refine lv_iload_n hx hb dX6_relieves_165 rfl (lv_at hl 2 rfl) ?_
      refine lv_iconst (v := 1) hx hb dX6_relieves_166 (by decide) ?_
      refine lv_iconst (v := 0) hx hb dX6_relieves_167 (by decide) ?_
      obtain ⟨G_102, hc_103, hf⟩ := bind_inv hf
      refine aftV (runV C hE hA hH [0, 1, 2, 3, 4, 5, 6, 7, 8, 9, 10, 11] nC_M_M_0_11 (sC_M_M_0_11 g ad G_100 J) (kX6_puts l g ad _ G_100 J z0 (1 : Int32) (0 : Int32) G_102  hc_103) tw_8_17 tw_8_18 tw_8_19 tw_1_5 tw_8_20 hdX6_puts 0 rfl rfl rfl rfl ⟨Nat.le_of_ble_eq_true rfl, Nat.le_of_ble_eq_true rfl⟩ rfl hl.1 (rest := []) rfl (Nat.le_of_ble_eq_true rfl) dX6_relieves_168 ⟨Nat.zero_le _, Nat.zero_le _⟩) hA hH [0, 1, 2, 3, 4, 5, 6, 7, 8, 9, 10, 11] [] (sC_M_M_0_11 g ad G_100 J) (sR_M_M_0_11 g ad G_100 J) nR_M_M_0_11 dj_M_M_0_11 [0, 1, 2, 3, 4, 5, 6, 7, 8, 9, 10, 11] nP_M_M_0_11 (sP_M_M_0_11 g ad G_100 J G_102 J) (fun H locs hH => ?_)
      refine lv_aload_n hx hb dX6_relieves_171 rfl (lv_at hl 3 rfl) ?_
      refine lv_iload_n hx hb dX6_relieves_172 rfl (lv_at hl 2 rfl) ?_
      refine lv_iconst (v := 2) hx hb dX6_relieves_173 (by decide) ?_
      refine lv_aload_n hx hb dX6_relieves_174 rfl (lv_at hl 3 rfl) ?_
      refine gf_RX6_7 C hE hH 0 rfl rfl dX6_relieves_175 ?_
      refine lv_iconst (v := 0) hx hb dX6_relieves_178 (by decide) ?_
      obtain ⟨hi_104, hf⟩ := grd_inv hf
      refine xiald C hE hH 1 rfl hi_104 dX6_relieves_179 ?_
      refine lv_iconst (v := 1) hx hb dX6_relieves_180 (by decide) ?_
      refine lv_iadd hx hb dX6_relieves_181 ?_
      obtain ⟨G_105, hc_106, hf⟩ := bind_inv hf
      refine aftV (runV C hE hA hH [0, 1, 2, 3, 4, 5, 6, 7, 8, 9, 10, 11] nC_M_M_0_11 (sC_M_M_0_11 g ad G_102 J) (kX6_puts l g ad _ G_102 J z0 (2 : Int32) ((G_102 1 (0 : Int32).toNatClampNeg) + (1 : Int32)) G_105  hc_106) tw_8_17 tw_8_18 tw_8_19 tw_1_5 tw_8_20 hdX6_puts 0 rfl rfl rfl rfl ⟨Nat.le_of_ble_eq_true rfl, Nat.le_of_ble_eq_true rfl⟩ rfl hl.1 (rest := []) rfl (Nat.le_of_ble_eq_true rfl) dX6_relieves_182 ⟨Nat.zero_le _, Nat.zero_le _⟩) hA hH [0, 1, 2, 3, 4, 5, 6, 7, 8, 9, 10, 11] [] (sC_M_M_0_11 g ad G_102 J) (sR_M_M_0_11 g ad G_102 J) nR_M_M_0_11 dj_M_M_0_11 [0, 1, 2, 3, 4, 5, 6, 7, 8, 9, 10, 11] nP_M_M_0_11 (sP_M_M_0_11 g ad G_102 J G_105 J) (fun H locs hH => ?_)
      exact j_185 y2 z0 G_105 _ _ ls hf hH (lv_sub hl [3, 5, 2] rfl)
  refine lv_aload_n hx hb dX6_relieves_0 rfl (lv_at hl 0 rfl) ?_
  refine lv_iconst (v := 0) hx hb dX6_relieves_1 (by decide) ?_
  obtain ⟨r_107, hc_108, hf⟩ := bind_inv hf
  refine aftPI (runV C hE hA hH [0, 1, 2, 3, 4, 5, 6, 7, 8, 9, 10, 11] nC_M_M_0_11 (sC_M_M_0_11 g ad G J) (kX6_first l g ad _ G J (0 : Int32) r_107  hc_108) tw_17_2 tw_17_3 tw_17_4 tw_1_5 tw_17_5 hdX6_first 0 rfl rfl rfl rfl ⟨Nat.le_of_ble_eq_true rfl, Nat.le_of_ble_eq_true rfl⟩ rfl hl.1 (rest := []) rfl (Nat.le_of_ble_eq_true rfl) dX6_relieves_2 ⟨Nat.zero_le _, Nat.zero_le _⟩) ?_
  refine lv_istore_n (lv' := [(2, .int r_107), (0, .ref (ad 0)), (1, .int x1)]) hx hb dX6_relieves_5 rfl hl (by decide) rfl (fun ls hl => ?_)
  refine lv_aload_n hx hb dX6_relieves_6 rfl (lv_at hl 1 rfl) ?_
  obtain ⟨r_109, hc_110, hf⟩ := bind_inv hf
  refine aftPI (runV C hE hA hH [0, 1, 2, 3, 4, 5, 6, 7, 8, 9, 10, 11] nC_M_M_0_11 (sC_M_M_0_11 g ad G J) (kX6_onSet l g ad _ G J r_109  hc_110) tw_17_10 tw_17_11 tw_17_12 tw_1_5 tw_17_13 hdX6_onSet 0 rfl rfl rfl rfl ⟨Nat.le_of_ble_eq_true rfl, Nat.le_of_ble_eq_true rfl⟩ rfl hl.1 (rest := []) rfl (Nat.le_of_ble_eq_true rfl) dX6_relieves_7 ⟨Nat.zero_le _, Nat.zero_le _⟩) ?_
  obtain ⟨r_111, hc_112, hf⟩ := bind_inv hf
  refine aftPI (runS C hE hA hH [] rfl rfl (kX6_bits l g ad _ r_109 r_111  hc_112) tw_17_14 tw_17_15 tw_1_5 tw_17_16 hdX6_bits rfl rfl ⟨Nat.le_of_ble_eq_true rfl, Nat.le_of_ble_eq_true rfl⟩ rfl hl.1 (rest := []) rfl (Nat.le_of_ble_eq_true rfl) dX6_relieves_10 ⟨Nat.zero_le _, Nat.zero_le _⟩) ?_
  refine lv_aload_n hx hb dX6_relieves_13 rfl (lv_at hl 1 rfl) ?_
  refine gf_RX6_7 C hE hH 0 rfl rfl dX6_relieves_14 ?_
  refine lv_iconst (v := 3) hx hb dX6_relieves_17 (by decide) ?_
  obtain ⟨hi_113, hf⟩ := grd_inv hf
  refine xiald C hE hH 1 rfl hi_113 dX6_relieves_18 ?_
  refine lv_icmp_lt (tgt := 30) hx hb dX6_relieves_19 (by decide) (fun c_114 => ?_) (fun c_114 => ?_)
  · have hf := if_p hf c_114
    refine lv_iconst (v := (-1)) hx hb dX6_relieves_30 (by decide) ?_
    exact j_31 x1 r_107 (-1 : Int32) G _ _ ls hf hH (lv_sub hl [1, 2, 0] rfl)
  · have hf := if_n hf c_114
    refine lv_aload_n hx hb dX6_relieves_22 rfl (lv_at hl 1 rfl) ?_
    refine lv_iconst (v := 1) hx hb dX6_relieves_23 (by decide) ?_
    obtain ⟨r_115, hc_116, hf⟩ := bind_inv hf
    refine aftPI (runV C hE hA hH [0, 1, 2, 3, 4, 5, 6, 7, 8, 9, 10, 11] nC_M_M_0_11 (sC_M_M_0_11 g ad G J) (kX6_first l g ad _ G J (1 : Int32) r_115  hc_116) tw_17_2 tw_17_3 tw_17_4 tw_1_5 tw_17_5 hdX6_first 0 rfl rfl rfl rfl ⟨Nat.le_of_ble_eq_true rfl, Nat.le_of_ble_eq_true rfl⟩ rfl hl.1 (rest := []) rfl (Nat.le_of_ble_eq_true rfl) dX6_relieves_24 ⟨Nat.zero_le _, Nat.zero_le _⟩) ?_
    refine lv_goto (tgt := 31) hx hb dX6_relieves_27 (by decide) ?_
    exact j_31 x1 r_107 r_115 G _ _ ls hf hH (lv_sub hl [1, 2, 0] rfl)
def fX6_oneDay_c156  (G : M2) (J : J2) : Option (M2) := grd (inb (0 : Int32) 75) (grd (inb (0 : Int32) 75) (letb (st2 G 1 (upd (G 1) (0 : Int32).toNatClampNeg ((G 1 (0 : Int32).toNatClampNeg) + (1 : Int32)))) (fun G_41 : M2 => some G_41)))
def fX6_oneDay_c146  (y2 : Int32) (y3 : Int32) (z0 : Int32) (z1 : Int32) (G : M2) (J : J2) : Option (M2) := grd (inb z1 75) (letb (st2 G 1 (upd (G 1) z1.toNatClampNeg z0)) (fun G_43 : M2 => (if y3 = 0 then fX6_oneDay_c156  G_43 J else (fX6_relieves y2 G_43 J).bind (fun (G_45 : M2) => fX6_oneDay_c156  G_45 J))))
def fX6_oneDay_c131  (y2 : Int32) (z0 : Int32) (G : M2) (J : J2) : Option (M2) := (if z0 = 0 then fX6_oneDay_c146  y2 z0 (2 : Int32) (4 : Int32) G J else fX6_oneDay_c146  y2 z0 (0 : Int32) (4 : Int32) G J)
def fX6_oneDay_c83  (y2 : Int32) (z0 : Int32) (z1 : Int32) (G : M2) (J : J2) : Option (M2) := grd (inb z1 75) (letb (st2 G 1 (upd (G 1) z1.toNatClampNeg z0)) (fun G_49 : M2 => letb (st2 G_49 0 (upd (G_49 0) 0 (-1 : Int32))) (fun G_50 : M2 => letb (st2 G_50 0 (upd (G_50 0) 1 (-1 : Int32))) (fun G_51 : M2 => (if y2 ≤ 0 then fX6_oneDay_c156  G_51 J else grd (inb (4 : Int32) 75) (grd (inb (4 : Int32) 75) (letb (st2 G_51 1 (upd (G_51 1) (4 : Int32).toNatClampNeg ((G_51 1 (4 : Int32).toNatClampNeg) + (1 : Int32)))) (fun G_55 : M2 => grd (inb (4 : Int32) 75) ((if (G_55 1 (4 : Int32).toNatClampNeg) = (3 : Int32) then (fX6_first (0 : Int32) G_55 J).bind (fun (r_58 : Int32) => (if r_58 < 0 then fX6_oneDay_c131  y2 (0 : Int32) G_55 J else fX6_oneDay_c131  y2 (1 : Int32) G_55 J)) else fX6_oneDay_c156  G_55 J))))))))))
def fX6_oneDay_c55  (y1 : Int32) (y2 : Int32) (z0 : Int32) (z1 : Int32) (G : M2) (J : J2) : Option (M2) := grd (inb z1 75) (letb (st2 G 1 (upd (G 1) z1.toNatClampNeg z0)) (fun G_62 : M2 => grd (inb (2 : Int32) 75) ((if y1 ≤ (G_62 1 (2 : Int32).toNatClampNeg) then grd (inb (2 : Int32) 75) (fX6_oneDay_c83  y2 ((G_62 1 (2 : Int32).toNatClampNeg) - y1) (2 : Int32) G_62 J) else fX6_oneDay_c83  y2 (0 : Int32) (2 : Int32) G_62 J))))
def fX6_oneDay (G : M2) (J : J2) : Option (M2) := (fX6_usesAll G J).bind (fun (r_66 : Int32) => grd (inb (0 : Int32) 75) ((fX6_seconds (G 1 (0 : Int32).toNatClampNeg) G J).bind (fun (r_69 : Int32) => grd (inb (2 : Int32) 75) ((if r_66 ≤ (G 1 (2 : Int32).toNatClampNeg) then grd (inb (5 : Int32) 75) (fX6_oneDay_c55  r_66 r_69 (G 1 (5 : Int32).toNatClampNeg) (5 : Int32) G J) else grd (inb (5 : Int32) 75) ((fX6_held ((G 1 (5 : Int32).toNatClampNeg) + (1 : Int32)) (0 : Int32) (9999 : Int32)).bind (fun (r_75 : Int32) => fX6_oneDay_c55  r_66 r_69 r_75 (5 : Int32) G J)))))))
def rmX6_oneDay : Room := { frames := 5, cells := 0, slots := 0, locals := 109 }
theorem hdX6_oneDay : yX6_oneDay.cls = yX6_oneDay.cls ∧ yX6_oneDay.cls ≠ "java/lang/invoke/MethodHandle" ∧ yX6_oneDay.cls ≠ "java/lang/invoke/VarHandle" ∧ (parseMethodDescriptor yX6_oneDay.desc).map (fun d => d.parameters.length) = some 0 := by decide +kernel
set_option maxHeartbeats 4000000 in
set_option maxRecDepth 100000 in
theorem kX6_oneDay (l : Launch) (g : Gl) (ad : Nat → Nat) (sz : Nat) (G : M2) (J : J2)  (G' : M2)  (hf : fX6_oneDay G J = some G') : MetV l yX6_oneDay (Cond.code yX6_oneDay cX6_oneDay 4 none :: wsL_law) rmX6_oneDay [.ref (ad 0)] g (wM g ad G J) sz (wM g ad G' J) := by
  refine openV (by decide +kernel) (Nat.le_of_ble_eq_true rfl) ?_
  intro p e s m args below meth c A C hE hA hH ls hl
  have hl : lv_has ls 4 [(0, .ref (ad 0))] := hl
  have C : Cx p s m args meth c cX6_oneDay 4 none RX6 := C
  obtain ⟨hx, hb, hml, hown, hT, hr, hlk⟩ := id C
  rw [fX6_oneDay] at hf
  have j_55 : ∀ (y1 : Int32) (y2 : Int32) (z0 : Int32) (z1 : Int32) (G : M2) (H : Heap) (locs : List Loc) (ls : Array Slot), fX6_oneDay_c55  y1 y2 z0 z1 G J = some G' → Hp g A s H locs (wM g ad G J) → lv_has ls 4 [(0, .ref (ad 0)), (1, .int y1), (2, .int y2)] → W p l e rmX6_oneDay s m args below meth c H locs 0 0 (QV g A below args s (wM g ad G' J)) (F0 m 55 ls [.int z0, .int z1, .ref (ad 1)]) := by
    intro y1 y2 z0 z1 G H locs  ls hf hH hl
    rw [fX6_oneDay_c55] at hf
    have j_83 : ∀ (y2 : Int32) (z0 : Int32) (z1 : Int32) (G : M2) (H : Heap) (locs : List Loc) (ls : Array Slot), fX6_oneDay_c83  y2 z0 z1 G J = some G' → Hp g A s H locs (wM g ad G J) → lv_has ls 4 [(0, .ref (ad 0)), (2, .int y2)] → W p l e rmX6_oneDay s m args below meth c H locs 0 0 (QV g A below args s (wM g ad G' J)) (F0 m 83 ls [.int z0, .int z1, .ref (ad 1)]) := by
      intro y2 z0 z1 G H locs  ls hf hH hl
      rw [fX6_oneDay_c83] at hf
      have j_156 : ∀ (G : M2) (H : Heap) (locs : List Loc) (ls : Array Slot), fX6_oneDay_c156  G J = some G' → Hp g A s H locs (wM g ad G J) → lv_has ls 4 [(0, .ref (ad 0))] → W p l e rmX6_oneDay s m args below meth c H locs 0 0 (QV g A below args s (wM g ad G' J)) (F0 m 156 ls []) := by
        intro G H locs  ls hf hH hl
        rw [fX6_oneDay_c156] at hf
        refine lv_aload_n hx hb dX6_oneDay_156 rfl (lv_at hl 0 rfl) ?_
        refine gf_RX6_7 C hE hH 0 rfl rfl dX6_oneDay_157 ?_
        refine lv_iconst (v := 0) hx hb dX6_oneDay_160 (by decide) ?_
        refine lv_dup2_11 hx hb dX6_oneDay_161 rfl rfl ?_
        obtain ⟨hi_39, hf⟩ := grd_inv hf
        refine xiald C hE hH 1 rfl hi_39 dX6_oneDay_162 ?_
        refine lv_iconst (v := 1) hx hb dX6_oneDay_163 (by decide) ?_
        refine lv_iadd hx hb dX6_oneDay_164 ?_
        obtain ⟨hi_40, hf⟩ := grd_inv hf
        refine xiast C hE hH 1 rfl hi_40 (fun q : M2 => wM g ad q J) (st2 G 1 (upd (G 1) (0 : Int32).toNatClampNeg ((G 1 (0 : Int32).toNatClampNeg) + (1 : Int32)))) rfl dX6_oneDay_165 (fun G_41 eG_41 H locs hH => ?_)
        have hf := letb_at hf G_41 eG_41
        have h1 := Option.some.inj hf
        subst h1
        exact retV C hH dX6_oneDay_166
      have j_131 : ∀ (y2 : Int32) (z0 : Int32) (G : M2) (H : Heap) (locs : List Loc) (ls : Array Slot), fX6_oneDay_c131  y2 z0 G J = some G' → Hp g A s H locs (wM g ad G J) → lv_has ls 4 [(0, .ref (ad 0)), (2, .int y2)] → W p l e rmX6_oneDay s m args below meth c H locs 0 0 (QV g A below args s (wM g ad G' J)) (F0 m 131 ls [.int z0]) := by
        intro y2 z0 G H locs  ls hf hH hl
        rw [fX6_oneDay_c131] at hf
        have j_146 : ∀ (y2 : Int32) (y3 : Int32) (z0 : Int32) (z1 : Int32) (G : M2) (H : Heap) (locs : List Loc) (ls : Array Slot), fX6_oneDay_c146  y2 y3 z0 z1 G J = some G' → Hp g A s H locs (wM g ad G J) → lv_has ls 4 [(0, .ref (ad 0)), (2, .int y2), (3, .int y3)] → W p l e rmX6_oneDay s m args below meth c H locs 0 0 (QV g A below args s (wM g ad G' J)) (F0 m 146 ls [.int z0, .int z1, .ref (ad 1)]) := by
          intro y2 y3 z0 z1 G H locs  ls hf hH hl
          rw [fX6_oneDay_c146] at hf
          obtain ⟨hi_42, hf⟩ := grd_inv hf
          refine xiast C hE hH 1 rfl hi_42 (fun q : M2 => wM g ad q J) (st2 G 1 (upd (G 1) z1.toNatClampNeg z0)) rfl dX6_oneDay_146 (fun G_43 eG_43 H locs hH => ?_)
          have hf := letb_at hf G_43 eG_43
          refine lv_iload_n hx hb dX6_oneDay_147 rfl (lv_at hl 2 rfl) ?_
          refine lv_if_eq (tgt := 156) hx hb dX6_oneDay_148 (by decide) (fun c_44 => ?_) (fun c_44 => ?_)
          · have hf := if_p hf c_44
            exact j_156 G_43 _ _ ls hf hH (lv_sub hl [0] rfl)
          · have hf := if_n hf c_44
            refine lv_aload_n hx hb dX6_oneDay_151 rfl (lv_at hl 0 rfl) ?_
            refine lv_iload_n hx hb dX6_oneDay_152 rfl (lv_at hl 1 rfl) ?_
            obtain ⟨G_45, hc_46, hf⟩ := bind_inv hf
            refine aftV (runV C hE hA hH [0, 1, 2, 3, 4, 5, 6, 7, 8, 9, 10, 11] nC_M_M_0_11 (sC_M_M_0_11 g ad G_43 J) (kX6_relieves l g ad _ G_43 J y2 G_45  hc_46) tw_17_6 tw_17_7 tw_17_8 tw_1_5 tw_17_9 hdX6_relieves 0 rfl rfl rfl rfl ⟨Nat.le_of_ble_eq_true rfl, Nat.le_of_ble_eq_true rfl⟩ rfl hl.1 (rest := []) rfl (Nat.le_of_ble_eq_true rfl) dX6_oneDay_153 ⟨Nat.zero_le _, Nat.zero_le _⟩) hA hH [0, 1, 2, 3, 4, 5, 6, 7, 8, 9, 10, 11] [] (sC_M_M_0_11 g ad G_43 J) (sR_M_M_0_11 g ad G_43 J) nR_M_M_0_11 dj_M_M_0_11 [0, 1, 2, 3, 4, 5, 6, 7, 8, 9, 10, 11] nP_M_M_0_11 (sP_M_M_0_11 g ad G_43 J G_45 J) (fun H locs hH => ?_)
            exact j_156 G_45 _ _ ls hf hH (lv_sub hl [0] rfl)
        refine lv_istore_n (lv' := [(3, .int z0), (0, .ref (ad 0)), (2, .int y2)]) hx hb dX6_oneDay_131 rfl hl (by decide) rfl (fun ls hl => ?_)
        refine lv_aload_n hx hb dX6_oneDay_132 rfl (lv_at hl 1 rfl) ?_
        refine gf_RX6_7 C hE hH 0 rfl rfl dX6_oneDay_133 ?_
        refine lv_iconst (v := 4) hx hb dX6_oneDay_136 (by decide) ?_
        refine lv_iload_n hx hb dX6_oneDay_137 rfl (lv_at hl 0 rfl) ?_
        refine lv_if_eq (tgt := 145) hx hb dX6_oneDay_138 (by decide) (fun c_47 => ?_) (fun c_47 => ?_)
        · have hf := if_p hf c_47
          refine lv_iconst (v := 2) hx hb dX6_oneDay_145 (by decide) ?_
          exact j_146 y2 z0 (2 : Int32) (4 : Int32) G _ _ ls hf hH (lv_sub hl [1, 2, 0] rfl)
        · have hf := if_n hf c_47
          refine lv_iconst (v := 0) hx hb dX6_oneDay_141 (by decide) ?_
          refine lv_goto (tgt := 146) hx hb dX6_oneDay_142 (by decide) ?_
          exact j_146 y2 z0 (0 : Int32) (4 : Int32) G _ _ ls hf hH (lv_sub hl [1, 2, 0] rfl)
      obtain ⟨hi_48, hf⟩ := grd_inv hf
      refine xiast C hE hH 1 rfl hi_48 (fun q : M2 => wM g ad q J) (st2 G 1 (upd (G 1) z1.toNatClampNeg z0)) rfl dX6_oneDay_83 (fun G_49 eG_49 H locs hH => ?_)
      have hf := letb_at hf G_49 eG_49
      refine lv_aload_n hx hb dX6_oneDay_84 rfl (lv_at hl 0 rfl) ?_
      refine lv_iconst (v := (-1)) hx hb dX6_oneDay_85 (by decide) ?_
      refine pf_RX6_114 C hE hH 0 rfl rfl rfl (Nat.le_of_ble_eq_true rfl) (fun q : M2 => wM g ad q J) (st2 G_49 0 (upd (G_49 0) 0 (-1 : Int32))) rfl dX6_oneDay_86 (fun G_50 eG_50 H locs hH => ?_)
      have hf := letb_at hf G_50 eG_50
      refine lv_aload_n hx hb dX6_oneDay_89 rfl (lv_at hl 0 rfl) ?_
      refine lv_iconst (v := (-1)) hx hb dX6_oneDay_90 (by decide) ?_
      refine pf_RX6_118 C hE hH 0 rfl rfl rfl (Nat.le_of_ble_eq_true rfl) (fun q : M2 => wM g ad q J) (st2 G_50 0 (upd (G_50 0) 1 (-1 : Int32))) rfl dX6_oneDay_91 (fun G_51 eG_51 H locs hH => ?_)
      have hf := letb_at hf G_51 eG_51
      refine lv_iload_n hx hb dX6_oneDay_94 rfl (lv_at hl 1 rfl) ?_
      refine lv_if_le (tgt := 156) hx hb dX6_oneDay_95 (by decide) (fun c_52 => ?_) (fun c_52 => ?_)
      · have hf := if_p hf c_52
        exact j_156 G_51 _ _ ls hf hH (lv_sub hl [0] rfl)
      · have hf := if_n hf c_52
        refine lv_aload_n hx hb dX6_oneDay_98 rfl (lv_at hl 0 rfl) ?_
        refine gf_RX6_7 C hE hH 0 rfl rfl dX6_oneDay_99 ?_
        refine lv_iconst (v := 4) hx hb dX6_oneDay_102 (by decide) ?_
        refine lv_dup2_11 hx hb dX6_oneDay_103 rfl rfl ?_
        obtain ⟨hi_53, hf⟩ := grd_inv hf
        refine xiald C hE hH 1 rfl hi_53 dX6_oneDay_104 ?_
        refine lv_iconst (v := 1) hx hb dX6_oneDay_105 (by decide) ?_
        refine lv_iadd hx hb dX6_oneDay_106 ?_
        obtain ⟨hi_54, hf⟩ := grd_inv hf
        refine xiast C hE hH 1 rfl hi_54 (fun q : M2 => wM g ad q J) (st2 G_51 1 (upd (G_51 1) (4 : Int32).toNatClampNeg ((G_51 1 (4 : Int32).toNatClampNeg) + (1 : Int32)))) rfl dX6_oneDay_107 (fun G_55 eG_55 H locs hH => ?_)
        have hf := letb_at hf G_55 eG_55
        refine lv_aload_n hx hb dX6_oneDay_108 rfl (lv_at hl 0 rfl) ?_
        refine gf_RX6_7 C hE hH 0 rfl rfl dX6_oneDay_109 ?_
        refine lv_iconst (v := 4) hx hb dX6_oneDay_112 (by decide) ?_
        obtain ⟨hi_56, hf⟩ := grd_inv hf
        refine xiald C hE hH 1 rfl hi_56 dX6_oneDay_113 ?_
        refine lv_iconst (v := 3) hx hb dX6_oneDay_114 (by decide) ?_
        refine lv_icmp_ne (tgt := 156) hx hb dX6_oneDay_115 (by decide) (fun c_57 => ?_) (fun c_57 => ?_)
        · have hf := if_n hf c_57
          exact j_156 G_55 _ _ ls hf hH (lv_sub hl [0] rfl)
        · have hf := if_p hf c_57
          refine lv_aload_n hx hb dX6_oneDay_118 rfl (lv_at hl 0 rfl) ?_
          refine lv_iconst (v := 0) hx hb dX6_oneDay_119 (by decide) ?_
          obtain ⟨r_58, hc_59, hf⟩ := bind_inv hf
          refine aftPI (runV C hE hA hH [0, 1, 2, 3, 4, 5, 6, 7, 8, 9, 10, 11] nC_M_M_0_11 (sC_M_M_0_11 g ad G_55 J) (kX6_first l g ad _ G_55 J (0 : Int32) r_58  hc_59) tw_17_2 tw_17_3 tw_17_4 tw_1_5 tw_17_5 hdX6_first 0 rfl rfl rfl rfl ⟨Nat.le_of_ble_eq_true rfl, Nat.le_of_ble_eq_true rfl⟩ rfl hl.1 (rest := []) rfl (Nat.le_of_ble_eq_true rfl) dX6_oneDay_120 ⟨Nat.zero_le _, Nat.zero_le _⟩) ?_
          refine lv_if_lt (tgt := 130) hx hb dX6_oneDay_123 (by decide) (fun c_60 => ?_) (fun c_60 => ?_)
          · have hf := if_p hf c_60
            refine lv_iconst (v := 0) hx hb dX6_oneDay_130 (by decide) ?_
            exact j_131 y2 (0 : Int32) G_55 _ _ ls hf hH (lv_sub hl [0, 1] rfl)
          · have hf := if_n hf c_60
            refine lv_iconst (v := 1) hx hb dX6_oneDay_126 (by decide) ?_
            refine lv_goto (tgt := 131) hx hb dX6_oneDay_127 (by decide) ?_
            exact j_131 y2 (1 : Int32) G_55 _ _ ls hf hH (lv_sub hl [0, 1] rfl)
    obtain ⟨hi_61, hf⟩ := grd_inv hf
    refine xiast C hE hH 1 rfl hi_61 (fun q : M2 => wM g ad q J) (st2 G 1 (upd (G 1) z1.toNatClampNeg z0)) rfl dX6_oneDay_55 (fun G_62 eG_62 H locs hH => ?_)
    have hf := letb_at hf G_62 eG_62
    refine lv_aload_n hx hb dX6_oneDay_56 rfl (lv_at hl 0 rfl) ?_
    refine gf_RX6_7 C hE hH 0 rfl rfl dX6_oneDay_57 ?_
    refine lv_iconst (v := 2) hx hb dX6_oneDay_60 (by decide) ?_
    refine lv_aload_n hx hb dX6_oneDay_61 rfl (lv_at hl 0 rfl) ?_
    refine gf_RX6_7 C hE hH 0 rfl rfl dX6_oneDay_62 ?_
    refine lv_iconst (v := 2) hx hb dX6_oneDay_65 (by decide) ?_
    obtain ⟨hi_63, hf⟩ := grd_inv hf
    refine xiald C hE hH 1 rfl hi_63 dX6_oneDay_66 ?_
    refine lv_iload_n hx hb dX6_oneDay_67 rfl (lv_at hl 1 rfl) ?_
    refine lv_icmp_ge (tgt := 75) hx hb dX6_oneDay_68 (by decide) (fun c_64 => ?_) (fun c_64 => ?_)
    · have hf := if_p hf c_64
      refine lv_aload_n hx hb dX6_oneDay_75 rfl (lv_at hl 0 rfl) ?_
      refine gf_RX6_7 C hE hH 0 rfl rfl dX6_oneDay_76 ?_
      refine lv_iconst (v := 2) hx hb dX6_oneDay_79 (by decide) ?_
      obtain ⟨hi_65, hf⟩ := grd_inv hf
      refine xiald C hE hH 1 rfl hi_65 dX6_oneDay_80 ?_
      refine lv_iload_n hx hb dX6_oneDay_81 rfl (lv_at hl 1 rfl) ?_
      refine lv_isub hx hb dX6_oneDay_82 ?_
      exact j_83 y2 ((G_62 1 (2 : Int32).toNatClampNeg) - y1) (2 : Int32) G_62 _ _ ls hf hH (lv_sub hl [0, 2] rfl)
    · have hf := if_n hf c_64
      refine lv_iconst (v := 0) hx hb dX6_oneDay_71 (by decide) ?_
      refine lv_goto (tgt := 83) hx hb dX6_oneDay_72 (by decide) ?_
      exact j_83 y2 (0 : Int32) (2 : Int32) G_62 _ _ ls hf hH (lv_sub hl [0, 2] rfl)
  refine lv_aload_n hx hb dX6_oneDay_0 rfl (lv_at hl 0 rfl) ?_
  obtain ⟨r_66, hc_67, hf⟩ := bind_inv hf
  refine aftPI (runV C hE hA hH [0, 1, 2, 3, 4, 5, 6, 7, 8, 9, 10, 11] nC_M_M_0_11 (sC_M_M_0_11 g ad G J) (kX6_usesAll l g ad _ G J r_66  hc_67) tw_16_19 tw_16_20 tw_16_21 tw_1_5 tw_16_22 hdX6_usesAll 0 rfl rfl rfl rfl ⟨Nat.le_of_ble_eq_true rfl, Nat.le_of_ble_eq_true rfl⟩ rfl hl.1 (rest := []) rfl (Nat.le_of_ble_eq_true rfl) dX6_oneDay_1 ⟨Nat.zero_le _, Nat.zero_le _⟩) ?_
  refine lv_istore_n (lv' := [(1, .int r_66), (0, .ref (ad 0))]) hx hb dX6_oneDay_4 rfl hl (by decide) rfl (fun ls hl => ?_)
  refine lv_aload_n hx hb dX6_oneDay_5 rfl (lv_at hl 1 rfl) ?_
  refine lv_aload_n hx hb dX6_oneDay_6 rfl (lv_at hl 1 rfl) ?_
  refine gf_RX6_7 C hE hH 0 rfl rfl dX6_oneDay_7 ?_
  refine lv_iconst (v := 0) hx hb dX6_oneDay_10 (by decide) ?_
  obtain ⟨hi_68, hf⟩ := grd_inv hf
  refine xiald C hE hH 1 rfl hi_68 dX6_oneDay_11 ?_
  obtain ⟨r_69, hc_70, hf⟩ := bind_inv hf
  refine aftPI (runV C hE hA hH [0, 1, 2, 3, 4, 5, 6, 7, 8, 9, 10, 11] nC_M_M_0_11 (sC_M_M_0_11 g ad G J) (kX6_seconds l g ad _ G J (G 1 (0 : Int32).toNatClampNeg) r_69  hc_70) tw_6_14 tw_6_15 tw_6_16 tw_1_5 tw_6_17 hdX6_seconds 0 rfl rfl rfl rfl ⟨Nat.le_of_ble_eq_true rfl, Nat.le_of_ble_eq_true rfl⟩ rfl hl.1 (rest := []) rfl (Nat.le_of_ble_eq_true rfl) dX6_oneDay_12 ⟨Nat.zero_le _, Nat.zero_le _⟩) ?_
  refine lv_istore_n (lv' := [(2, .int r_69), (1, .int r_66), (0, .ref (ad 0))]) hx hb dX6_oneDay_15 rfl hl (by decide) rfl (fun ls hl => ?_)
  refine lv_aload_n hx hb dX6_oneDay_16 rfl (lv_at hl 2 rfl) ?_
  refine gf_RX6_7 C hE hH 0 rfl rfl dX6_oneDay_17 ?_
  refine lv_iconst (v := 5) hx hb dX6_oneDay_20 (by decide) ?_
  refine lv_aload_n hx hb dX6_oneDay_21 rfl (lv_at hl 2 rfl) ?_
  refine gf_RX6_7 C hE hH 0 rfl rfl dX6_oneDay_22 ?_
  refine lv_iconst (v := 2) hx hb dX6_oneDay_25 (by decide) ?_
  obtain ⟨hi_71, hf⟩ := grd_inv hf
  refine xiald C hE hH 1 rfl hi_71 dX6_oneDay_26 ?_
  refine lv_iload_n hx hb dX6_oneDay_27 rfl (lv_at hl 1 rfl) ?_
  refine lv_icmp_ge (tgt := 49) hx hb dX6_oneDay_28 (by decide) (fun c_72 => ?_) (fun c_72 => ?_)
  · have hf := if_p hf c_72
    refine lv_aload_n hx hb dX6_oneDay_49 rfl (lv_at hl 2 rfl) ?_
    refine gf_RX6_7 C hE hH 0 rfl rfl dX6_oneDay_50 ?_
    refine lv_iconst (v := 5) hx hb dX6_oneDay_53 (by decide) ?_
    obtain ⟨hi_73, hf⟩ := grd_inv hf
    refine xiald C hE hH 1 rfl hi_73 dX6_oneDay_54 ?_
    exact j_55 r_66 r_69 (G 1 (5 : Int32).toNatClampNeg) (5 : Int32) G _ _ ls hf hH (lv_sub hl [2, 1, 0] rfl)
  · have hf := if_n hf c_72
    refine lv_aload_n hx hb dX6_oneDay_31 rfl (lv_at hl 2 rfl) ?_
    refine gf_RX6_7 C hE hH 0 rfl rfl dX6_oneDay_32 ?_
    refine lv_iconst (v := 5) hx hb dX6_oneDay_35 (by decide) ?_
    obtain ⟨hi_74, hf⟩ := grd_inv hf
    refine xiald C hE hH 1 rfl hi_74 dX6_oneDay_36 ?_
    refine lv_iconst (v := 1) hx hb dX6_oneDay_37 (by decide) ?_
    refine lv_iadd hx hb dX6_oneDay_38 ?_
    refine lv_iconst (v := 0) hx hb dX6_oneDay_39 (by decide) ?_
    refine lv_sipush (v := 9999) hx hb dX6_oneDay_40 (by decide) ?_
    obtain ⟨r_75, hc_76, hf⟩ := bind_inv hf
    refine aftPI (runS C hE hA hH [] rfl rfl (kX6_held l g ad _ ((G 1 (5 : Int32).toNatClampNeg) + (1 : Int32)) (0 : Int32) (9999 : Int32) r_75  hc_76) tw_16_23 tw_17_0 tw_1_5 tw_17_1 hdX6_held rfl rfl ⟨Nat.le_of_ble_eq_true rfl, Nat.le_of_ble_eq_true rfl⟩ rfl hl.1 (rest := [.int (5 : Int32), .ref (ad 1)]) rfl (Nat.le_of_ble_eq_true rfl) dX6_oneDay_43 ⟨Nat.zero_le _, Nat.zero_le _⟩) ?_
    refine lv_goto (tgt := 55) hx hb dX6_oneDay_46 (by decide) ?_
    exact j_55 r_66 r_69 r_75 (5 : Int32) G _ _ ls hf hH (lv_sub hl [2, 1, 0] rfl)
def fX6_passes_c17  (G : M2) (J : J2) : Option (M2) := some G
def fX6_passes_c2  : Nat → Int32 → Int32 → M2 → J2 → Option (M2)
  | 0, _, _, _, _ => none
  | n + 1, y1, y2, G, J => (if y1 ≤ y2 then fX6_passes_c17  G J else (fX6_oneDay G J).bind (fun (G_6 : M2) => letb (y2 + (1 : Int32)) (fun v_8 : Int32 => fX6_passes_c2 n y1 v_8 G_6 J)))
def fX6_passes (x1 : Int32) (G : M2) (J : J2) : Option (M2) := fX6_passes_c2  FU x1 (0 : Int32) G J
def rmX6_passes : Room := { frames := 6, cells := 0, slots := 0, locals := 132 }
theorem hdX6_passes : yX6_passes.cls = yX6_passes.cls ∧ yX6_passes.cls ≠ "java/lang/invoke/MethodHandle" ∧ yX6_passes.cls ≠ "java/lang/invoke/VarHandle" ∧ (parseMethodDescriptor yX6_passes.desc).map (fun d => d.parameters.length) = some 1 := by decide +kernel
set_option maxHeartbeats 4000000 in
set_option maxRecDepth 100000 in
theorem kX6_passes (l : Launch) (g : Gl) (ad : Nat → Nat) (sz : Nat) (G : M2) (J : J2) (x1 : Int32) (G' : M2)  (hf : fX6_passes x1 G J = some G') : MetV l yX6_passes (Cond.code yX6_passes cX6_passes 3 none :: wsL_law) rmX6_passes [.ref (ad 0), .int x1] g (wM g ad G J) sz (wM g ad G' J) := by
  refine openV (by decide +kernel) (Nat.le_of_ble_eq_true rfl) ?_
  intro p e s m args below meth c A C hE hA hH ls hl
  have hl : lv_has ls 3 [(0, .ref (ad 0)), (1, .int x1)] := hl
  have C : Cx p s m args meth c cX6_passes 3 none RX6 := C
  obtain ⟨hx, hb, hml, hown, hT, hr, hlk⟩ := id C
  rw [fX6_passes] at hf
  have lp_2 : ∀ (n_2 : Nat) (y1 : Int32) (y2 : Int32) (G : M2) (H : Heap) (locs : List Loc) (ls : Array Slot), fX6_passes_c2  n_2 y1 y2 G J = some G' → Hp g A s H locs (wM g ad G J) → lv_has ls 3 [(0, .ref (ad 0)), (1, .int y1), (2, .int y2)] → W p l e rmX6_passes s m args below meth c H locs 0 0 (QV g A below args s (wM g ad G' J)) (F0 m 2 ls []) := by
    intro n_2
    induction n_2 with
    | zero =>
      intro y1 y2 G H locs  ls hf hH hl
      rw [fX6_passes_c2] at hf
      cases hf
    | succ n_2 ih_2 =>
      intro y1 y2 G H locs  ls hf hH hl
      rw [fX6_passes_c2] at hf
      have j_17 : ∀ (G : M2) (H : Heap) (locs : List Loc) (ls : Array Slot), fX6_passes_c17  G J = some G' → Hp g A s H locs (wM g ad G J) → lv_has ls 3 [] → W p l e rmX6_passes s m args below meth c H locs 0 0 (QV g A below args s (wM g ad G' J)) (F0 m 17 ls []) := by
        intro G H locs  ls hf hH hl
        rw [fX6_passes_c17] at hf
        have h1 := Option.some.inj hf
        subst h1
        exact retV C hH dX6_passes_17
      refine lv_iload_n hx hb dX6_passes_2 rfl (lv_at hl 2 rfl) ?_
      refine lv_iload_n hx hb dX6_passes_3 rfl (lv_at hl 1 rfl) ?_
      refine lv_icmp_ge (tgt := 17) hx hb dX6_passes_4 (by decide) (fun c_5 => ?_) (fun c_5 => ?_)
      · have hf := if_p hf c_5
        exact j_17 G _ _ ls hf hH (lv_sub hl [] rfl)
      · have hf := if_n hf c_5
        refine lv_aload_n hx hb dX6_passes_7 rfl (lv_at hl 0 rfl) ?_
        obtain ⟨G_6, hc_7, hf⟩ := bind_inv hf
        refine aftV (runV C hE hA hH [0, 1, 2, 3, 4, 5, 6, 7, 8, 9, 10, 11] nC_M_M_0_11 (sC_M_M_0_11 g ad G J) (kX6_oneDay l g ad _ G J G_6  hc_7) tw_16_13 tw_16_14 tw_16_15 tw_1_5 tw_16_16 hdX6_oneDay 0 rfl rfl rfl rfl ⟨Nat.le_of_ble_eq_true rfl, Nat.le_of_ble_eq_true rfl⟩ rfl hl.1 (rest := []) rfl (Nat.le_of_ble_eq_true rfl) dX6_passes_8 ⟨Nat.zero_le _, Nat.zero_le _⟩) hA hH [0, 1, 2, 3, 4, 5, 6, 7, 8, 9, 10, 11] [] (sC_M_M_0_11 g ad G J) (sR_M_M_0_11 g ad G J) nR_M_M_0_11 dj_M_M_0_11 [0, 1, 2, 3, 4, 5, 6, 7, 8, 9, 10, 11] nP_M_M_0_11 (sP_M_M_0_11 g ad G J G_6 J) (fun H locs hH => ?_)
        obtain ⟨v_8, ev_8⟩ : ∃ z : Int32, z = y2 + (1 : Int32) := ⟨_, rfl⟩
        have hf := letb_at hf v_8 ev_8
        refine lv_iinc (v := v_8) (lv' := [(2, .int v_8), (0, .ref (ad 0)), (1, .int y1)]) hx hb dX6_passes_11 hl (k := 2) rfl (by rw [ev_8]; rfl) (by decide) rfl (fun ls hl => ?_)
        refine lv_goto (tgt := 2) hx hb dX6_passes_14 (by decide) ?_
        exact ih_2 y1 v_8 G_6 _ _ ls hf hH (lv_sub hl [1, 2, 0] rfl)
  refine lv_iconst (v := 0) hx hb dX6_passes_0 (by decide) ?_
  refine lv_istore_n (lv' := [(2, .int (0 : Int32)), (0, .ref (ad 0)), (1, .int x1)]) hx hb dX6_passes_1 rfl hl (by decide) rfl (fun ls hl => ?_)
  exact lp_2 _ x1 (0 : Int32) G _ _ ls hf hH (lv_sub hl [1, 2, 0] rfl)
