-- ===== small facts of numbers =====
theorem fa_lt (a b : Int32) : a < b ↔ a.toInt < b.toInt := Int32.lt_iff_toInt_lt
theorem fa_le (a b : Int32) : a ≤ b ↔ a.toInt ≤ b.toInt := Int32.le_iff_toInt_le
theorem inb_iff {x : Int32} {n : Nat} : inb x n = true ↔ 0 ≤ x.toInt ∧ x.toInt < n := by
  rw [← vp_in_iff]
  constructor
  · exact inb_in
  · intro h
    unfold inb
    rw [Bool.and_eq_true, decide_eq_true_eq, decide_eq_true_eq]
    exact ⟨fun q => h (Or.inl q), Nat.not_le.mp fun q => h (Or.inr q)⟩
theorem fX5_within_eq (x a b : Int32) : fX5_within x a b = some (if a ≤ x ∧ x ≤ b then 1 else 0) := by
  unfold fX5_within fX5_within_c14 fX5_within_c15
  simp only [fa_lt, fa_le]
  split
  · rw [if_neg (by omega)]; rfl
  · split
    · rw [if_neg (by omega)]; rfl
    · rw [if_pos (by omega)]; rfl
-- ===== sheetAt =====
def QcReadA (v : Value) : Array Value → State → Outcome → State → Prop := fun _ st o t => o = .returned (some v) ∧ t.heap = st.heap
def shv (ad : Nat → Nat) (x : Int32) : Value := if inb x 4 = true then .ref (ad (25 + 2 * x.toNatClampNeg)) else .null
section SA
variable {p : Program} {l : Launch} {e : Env} {R : Room} {s : State} {m : MethodId} {args : Array Value} {below : List Frame} {meth : Method} {c : Code} {H : Heap} {locs : List Loc} {cells slots : Nat} {Q : State → Prop} {pc : Nat} {ls : Array Slot} {rest st0 : List Value}
theorem aftPA {v : Value} {aa : Array Value} (hr : va_Run p l e R s m args below meth c H locs cells slots 0 0 (F0 m pc ls st0) rest (QcReadA v aa) (fun _ => False)) (kk : W p l e R s m args below meth c H locs cells slots Q (F0 m (pc + 3) ls (v :: rest))) : W p l e R s m args below meth c H locs cells slots Q (F0 m pc ls st0) := by
  intro T hT X
  obtain ⟨v', st₀, t, T', L, h0, X', hL, e1, -, ⟨hv, hh⟩, st⟩ := hr T hT X
  cases hv
  obtain ⟨t2, a1, b1⟩ := kk T' (by rw [e1, hh, h0]) (Stand.forget X' (fun q h => (hL q h).elim))
  exact ⟨t2, st t2 a1, b1⟩
end SA
def rmX5_sheetAt : Room := { frames := 1, cells := 0, slots := 0, locals := 22 }
theorem hdX5_sheetAt : yX5_sheetAt.cls = yX5_sheetAt.cls ∧ yX5_sheetAt.cls ≠ "java/lang/invoke/MethodHandle" ∧ yX5_sheetAt.cls ≠ "java/lang/invoke/VarHandle" ∧ (parseMethodDescriptor yX5_sheetAt.desc).map (fun d => d.parameters.length) = some 1 := by decide +kernel
set_option maxHeartbeats 4000000 in
set_option maxRecDepth 100000 in
theorem kX5_sheetAt (l : Launch) (g : Gl) (ad : Nat → Nat) (sz : Nat) (R1 : M2) (R2 : M2) (R3 : M2) (K : Int32) (T : M2) (SN : J2) (SZ : M2) (F : M1) (x1 : Int32) : Met l yX5_sheetAt (Cond.code yX5_sheetAt cX5_sheetAt 2 (some (.object "ReliefGales$Sheet")) :: wsL_law) rmX5_sheetAt (va_Pc [.ref (ad 0), .int x1] (Pre g (wX g ad R1 R2 R3 K T SN SZ F) sz)) (QcReadA (shv ad x1)) 0 0 (fun _ => False) := by
  refine openW (by decide +kernel) (Nat.le_of_ble_eq_true rfl) ?_
  intro p e s m args below meth c C hE hA hH ls hl
  have hl : lv_has ls 2 [(0, .ref (ad 0)), (1, .int x1)] := hl
  have C : Cx p s m args meth c cX5_sheetAt 2 (some (.object "ReliefGales$Sheet")) RX5 := C
  obtain ⟨hx, hb, hml, hown, hT, hr, hlk⟩ := id C
  refine lv_iload_n hx hb dX5_sheetAt_0 rfl (lv_at hl 1 rfl) ?_
  refine lv_iconst (v := 0) hx hb dX5_sheetAt_1 (by decide) ?_
  refine lv_iconst (v := 3) hx hb dX5_sheetAt_2 (by decide) ?_
  refine aftPI (runS C hE hA hH [] rfl rfl (kX5_within l g ad _ x1 (0 : Int32) (3 : Int32) _ (fX5_within_eq x1 0 3)) tw_4_14 tw_4_15 tw_1_2 tw_4_16 hdX5_within rfl rfl ⟨Nat.le_of_ble_eq_true rfl, Nat.le_of_ble_eq_true rfl⟩ rfl hl.1 (rest := []) rfl (Nat.le_of_ble_eq_true rfl) dX5_sheetAt_3 ⟨Nat.zero_le _, Nat.zero_le _⟩) ?_
  have key : inb x1 4 = true ↔ (0 ≤ x1 ∧ x1 ≤ 3) := by
    rw [inb_iff, fa_le, fa_le]
    have h3 : (3 : Int32).toInt = 3 := rfl
    have h0 : (0 : Int32).toInt = 0 := rfl
    rw [h3, h0]
    omega
  refine lv_if_eq (tgt := 18) hx hb dX5_sheetAt_6 (by decide) (fun c1 => ?_) (fun c1 => ?_)
  · have hn : ¬ inb x1 4 = true := fun h => by
      rw [if_pos (key.mp h)] at c1
      exact absurd c1 (by decide)
    refine lv_null hx hb dX5_sheetAt_18 ?_
    refine W.aret hx hb hr (Or.inl ⟨_, rfl⟩) (Or.inl rfl) (fun t ht _ => ⟨?_, ht⟩) (fun q h => by cases h) dX5_sheetAt_19 hlk
    rw [shv, if_neg hn]
  · have hi : inb x1 4 = true := by
      rw [key]
      by_cases h : 0 ≤ x1 ∧ x1 ≤ 3
      · exact h
      · exact absurd (if_neg h) c1
    refine lv_aload_n hx hb dX5_sheetAt_9 rfl (lv_at hl 0 rfl) ?_
    refine gf_RX5_35 C hE hH 0 rfl rfl dX5_sheetAt_10 ?_
    refine lv_iload_n hx hb dX5_sheetAt_13 rfl (lv_at hl 1 rfl) ?_
    refine va_aldq hx hb hE.1 hH.1 24 2 rfl rfl (inb_in hi) dX5_sheetAt_14 ?_
    have hlt : x1.toNatClampNeg < 4 := Nat.not_le.mp fun q => inb_in hi (Or.inr q)
    rw [if_pos hlt]
    refine lv_goto (tgt := 19) hx hb dX5_sheetAt_15 (by decide) ?_
    refine W.aret hx hb hr (Or.inl ⟨_, rfl⟩) (Or.inr ⟨_, rfl⟩) (fun t ht _ => ⟨?_, ht⟩) (fun q h => by cases h) dX5_sheetAt_19 hlk
    rw [shv, if_pos hi]
-- ===== the sheets by their number =====
theorem lt4 {k : Nat} (h : k < 4) : k = 0 ∨ k = 1 ∨ k = 2 ∨ k = 3 := by omega
theorem wX_obj {k : Nat} (hk : k < 4) (g : Gl) (ad : Nat → Nat) (R1 : M2) (R2 : M2) (R3 : M2) (K : Int32) (T : M2) (SN : J2) (SZ : M2) (F : M1) : (wX g ad R1 R2 R3 K T SN SZ F)[25 + 2 * k]? = some (ad (25 + 2 * k), .inr (1, [.ref (ad (26 + 2 * k)), .int (SZ k 0), .int (SZ k 1)])) := by
  rcases lt4 hk with rfl | rfl | rfl | rfl <;> rfl
theorem wX_arr {k : Nat} (hk : k < 4) (g : Gl) (ad : Nat → Nat) (R1 : M2) (R2 : M2) (R3 : M2) (K : Int32) (T : M2) (SN : J2) (SZ : M2) (F : M1) : (wX g ad R1 R2 R3 K T SN SZ F)[26 + 2 * k]? = some (ad (26 + 2 * k), .inl (gJ g, 40, .inr (.inl (SN k)))) := by
  rcases lt4 hk with rfl | rfl | rfl | rfl <;> rfl
theorem wX_setArr {k : Nat} (hk : k < 4) (g : Gl) (ad : Nat → Nat) (R1 : M2) (R2 : M2) (R3 : M2) (K : Int32) (T : M2) (SN : J2) (SZ : M2) (F : M1) (f : J1) : (wX g ad R1 R2 R3 K T SN SZ F).set (26 + 2 * k) (ad (26 + 2 * k), .inl (gJ g, 40, .inr (.inl f))) = wX g ad R1 R2 R3 K T (st2 SN k f) SZ F := by
  rcases lt4 hk with rfl | rfl | rfl | rfl <;> rfl
theorem nK {k : Nat} (hk : k < 4) : va_nd [25 + 2 * k, 26 + 2 * k] = true := by
  rcases lt4 hk with rfl | rfl | rfl | rfl <;> rfl
theorem sK {k : Nat} (hk : k < 4) (g : Gl) (ad : Nat → Nat) (R1 : M2) (R2 : M2) (R3 : M2) (K : Int32) (T : M2) (SN : J2) (SZ : M2) (F : M1) : ([25 + 2 * k, 26 + 2 * k] : List Nat).map (fun i => (wX g ad R1 R2 R3 K T SN SZ F)[i]?) = (wS g (fun j => ad (25 + 2 * k + j)) (SN k) (SZ k)).map some := by
  rcases lt4 hk with rfl | rfl | rfl | rfl <;> rfl
theorem sKsplit {k : Nat} (hk : k < 4) (g : Gl) (ad : Nat → Nat) (R1 : M2) (R2 : M2) (R3 : M2) (K : Int32) (T : M2) (SN : J2) (SZ : M2) (F : M1) : ∃ (isR perm : List Nat) (wr : va_W), isR.map (fun i => (wX g ad R1 R2 R3 K T SN SZ F)[i]?) = wr.map some ∧ va_nd isR = true ∧ (∀ i ∈ isR, i ∉ [25 + 2 * k, 26 + 2 * k]) ∧ va_nd perm = true ∧ ∀ (B : J1) (Z : M1), perm.map (fun i => (wr ++ wS g (fun j => ad (25 + 2 * k + j)) B Z)[i]?) = (wX g ad R1 R2 R3 K T (st2 SN k B) (st2 SZ k Z) F).map some := by
  rcases lt4 hk with rfl | rfl | rfl | rfl
  · exact ⟨[0, 1, 2, 3, 4, 5, 6, 7, 8, 9, 10, 11, 12, 13, 14, 15, 16, 17, 18, 19, 20, 21, 22, 23, 24, 27, 28, 29, 30, 31, 32, 33], [0, 1, 2, 3, 4, 5, 6, 7, 8, 9, 10, 11, 12, 13, 14, 15, 16, 17, 18, 19, 20, 21, 22, 23, 24, 32, 33, 25, 26, 27, 28, 29, 30, 31], ([0, 1, 2, 3, 4, 5, 6, 7, 8, 9, 10, 11, 12, 13, 14, 15, 16, 17, 18, 19, 20, 21, 22, 23, 24, 27, 28, 29, 30, 31, 32, 33] : List Nat).filterMap (fun i => (wX g ad R1 R2 R3 K T SN SZ F)[i]?), rfl, by decide, by decide, by decide, fun B Z => rfl⟩
  · exact ⟨[0, 1, 2, 3, 4, 5, 6, 7, 8, 9, 10, 11, 12, 13, 14, 15, 16, 17, 18, 19, 20, 21, 22, 23, 24, 25, 26, 29, 30, 31, 32, 33], [0, 1, 2, 3, 4, 5, 6, 7, 8, 9, 10, 11, 12, 13, 14, 15, 16, 17, 18, 19, 20, 21, 22, 23, 24, 25, 26, 32, 33, 27, 28, 29, 30, 31], ([0, 1, 2, 3, 4, 5, 6, 7, 8, 9, 10, 11, 12, 13, 14, 15, 16, 17, 18, 19, 20, 21, 22, 23, 24, 25, 26, 29, 30, 31, 32, 33] : List Nat).filterMap (fun i => (wX g ad R1 R2 R3 K T SN SZ F)[i]?), rfl, by decide, by decide, by decide, fun B Z => rfl⟩
  · exact ⟨[0, 1, 2, 3, 4, 5, 6, 7, 8, 9, 10, 11, 12, 13, 14, 15, 16, 17, 18, 19, 20, 21, 22, 23, 24, 25, 26, 27, 28, 31, 32, 33], [0, 1, 2, 3, 4, 5, 6, 7, 8, 9, 10, 11, 12, 13, 14, 15, 16, 17, 18, 19, 20, 21, 22, 23, 24, 25, 26, 27, 28, 32, 33, 29, 30, 31], ([0, 1, 2, 3, 4, 5, 6, 7, 8, 9, 10, 11, 12, 13, 14, 15, 16, 17, 18, 19, 20, 21, 22, 23, 24, 25, 26, 27, 28, 31, 32, 33] : List Nat).filterMap (fun i => (wX g ad R1 R2 R3 K T SN SZ F)[i]?), rfl, by decide, by decide, by decide, fun B Z => rfl⟩
  · exact ⟨[0, 1, 2, 3, 4, 5, 6, 7, 8, 9, 10, 11, 12, 13, 14, 15, 16, 17, 18, 19, 20, 21, 22, 23, 24, 25, 26, 27, 28, 29, 30, 33], [0, 1, 2, 3, 4, 5, 6, 7, 8, 9, 10, 11, 12, 13, 14, 15, 16, 17, 18, 19, 20, 21, 22, 23, 24, 25, 26, 27, 28, 29, 30, 32, 33, 31], ([0, 1, 2, 3, 4, 5, 6, 7, 8, 9, 10, 11, 12, 13, 14, 15, 16, 17, 18, 19, 20, 21, 22, 23, 24, 25, 26, 27, 28, 29, 30, 33] : List Nat).filterMap (fun i => (wX g ad R1 R2 R3 K T SN SZ F)[i]?), rfl, by decide, by decide, by decide, fun B Z => rfl⟩
theorem st2_same {α : Type} (L : Nat → Nat → α) (k : Nat) : st2 L k (L k) = L := by
  funext b
  unfold st2
  split
  · rename_i h; rw [h]
  · rfl
