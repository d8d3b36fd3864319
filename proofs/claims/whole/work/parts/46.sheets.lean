section SH
variable {R1 R2 R3 : M2} {K : Int32} {T : M2} {SN : J2} {SZ : M2} {F : M1} {G : M2} {J : J2}
theorem nar_8 (b : BitVec 64) : BitVec.sshiftRight (b <<< 56) 56 = BitVec.signExtend 64 (BitVec.signExtend 32 (BitVec.signExtend 8 (BitVec.signExtend 32 b))) := by
  apply BitVec.eq_of_getLsbD_eq
  intro i hi
  rw [BitVec.getLsbD_sshiftRight, BitVec.getLsbD_signExtend, BitVec.getLsbD_signExtend]
  simp only [BitVec.getLsbD_shiftLeft, BitVec.msb_eq_getLsbD_last, BitVec.getLsbD_setWidth, BitVec.getLsbD_signExtend]
  by_cases h1 : i < 8
  · have h2 : i < 32 := by omega
    have h3 : 56 + i < 64 := by omega
    have h4 : ¬ 64 ≤ i := by omega
    have h5 : ¬ 56 + i < 56 := by omega
    simp [h1, h2, h3, h4, h5, hi]
  · by_cases h2 : i < 32
    · have h3 : ¬ 56 + i < 64 := by omega
      simp [h1, h2, h3, hi]
    · have h3 : ¬ 56 + i < 64 := by omega
      simp [h1, h2, h3, hi]
theorem nar_16 (b : BitVec 64) : BitVec.sshiftRight (b <<< 48) 48 = BitVec.signExtend 64 (BitVec.signExtend 32 (BitVec.signExtend 16 (BitVec.signExtend 32 b))) := by
  apply BitVec.eq_of_getLsbD_eq
  intro i hi
  rw [BitVec.getLsbD_sshiftRight, BitVec.getLsbD_signExtend, BitVec.getLsbD_signExtend]
  simp only [BitVec.getLsbD_shiftLeft, BitVec.msb_eq_getLsbD_last, BitVec.getLsbD_setWidth, BitVec.getLsbD_signExtend]
  by_cases h1 : i < 16
  · have h2 : i < 32 := by omega
    have h3 : 48 + i < 64 := by omega
    have h4 : ¬ 64 ≤ i := by omega
    have h5 : ¬ 48 + i < 48 := by omega
    simp [h1, h2, h3, h4, h5, hi]
  · by_cases h2 : i < 32
    · have h3 : ¬ 48 + i < 64 := by omega
      simp [h1, h2, h3, hi]
    · have h3 : ¬ 48 + i < 64 := by omega
      simp [h1, h2, h3, hi]
theorem m_nar8 (x : Int64) : fX6_narrow 8 x = some (((x.toInt32).toInt8.toInt32).toInt64) := by
  show some (Int64.ofBitVec ((x.toBitVec <<< (((56 : Int32).toInt64 &&& 63).toBitVec.smod 64)).sshiftRight' (((56 : Int32).toInt64 &&& 63).toBitVec.smod 64))) = _
  rw [show (((56 : Int32).toInt64 &&& 63).toBitVec.smod 64) = 56#64 by decide]
  exact congrArg (fun b => some (Int64.ofBitVec b)) (nar_8 x.toBitVec)
theorem m_nar16 (x : Int64) : fX6_narrow 16 x = some (((x.toInt32).toInt16.toInt32).toInt64) := by
  show some (Int64.ofBitVec ((x.toBitVec <<< (((48 : Int32).toInt64 &&& 63).toBitVec.smod 64)).sshiftRight' (((48 : Int32).toInt64 &&& 63).toBitVec.smod 64))) = _
  rw [show (((48 : Int32).toInt64 &&& 63).toBitVec.smod 64) = 48#64 by decide]
  exact congrArg (fun b => some (Int64.ofBitVec b)) (nar_16 x.toBitVec)
theorem m_nar64 (x : Int64) : fX6_narrow 64 x = some x := rfl
theorem sh_no {x : Int32} (h : ¬ ((0 : Int32) ≤ x ∧ x ≤ 3)) : inb x 4 = false := by
  unfold inb
  by_cases h0 : (0 : Int32) ≤ x
  · have h1 : ¬ x.toNatClampNeg < 4 := by
      intro hc
      have hc' : x.toInt.toNat < 4 := hc
      refine h ⟨h0, ?_⟩
      rw [fa_le, show (3 : Int32).toInt = 3 from rfl]
      omega
    rw [decide_eq_false h1, Bool.and_false]
  · have h2 : x < 0 := Int32.not_le.mp h0
    rw [decide_eq_false (fun hh => hh h2)]
    rfl
theorem m_shY {x : Int32} (h : (0 : Int32) ≤ x ∧ x ≤ 3) : fX6_isSheet x = some 1 := by
  unfold fX6_isSheet
  rw [in_true h]; rfl
theorem m_shN {x : Int32} (h : ¬ ((0 : Int32) ≤ x ∧ x ≤ 3)) : fX6_isSheet x = some 0 := by
  unfold fX6_isSheet
  rw [in_false h]; rfl
theorem c_missY {B : J1} {Z : M1} (h : Z 0 = 0) : fX2_isMissing B Z = some 1 := by
  unfold fX2_isMissing
  rw [if_pos h]; rfl
theorem c_missN {B : J1} {Z : M1} (h : ¬ Z 0 = 0) : fX2_isMissing B Z = some 0 := by
  unfold fX2_isMissing
  rw [if_neg h]; rfl
theorem Rel.sh (h : Rel R1 R2 R3 K T SN SZ F G J) {k : Nat} (hk : k < 4) : SZ k 0 = G 6 k ∧ SZ k 1 = G 7 k ∧ (G 6 k = 0 ∨ G 6 k = 8 ∨ G 6 k = 16 ∨ G 6 k = 64) ∧ ∃ z, z ≤ 40 ∧ G 7 k = nI z ∧ (G 6 k = 0 → z = 0) := h.2.2.1.1 k hk
theorem Rel.cell (h : Rel R1 R2 R3 K T SN SZ F G J) {k i : Nat} (hk : k < 4) (hi : i < 40) : SN k i = J 1 (40 * k + i) := h.2.2.1.2 k i hk hi
theorem n_40k (k i : Nat) : (40 : Int32) * nI k + nI i = nI (40 * k + i) := by
  rw [show (40 : Int32) * nI k = nI (40 * k) from n_mul 40 k, n_add]
/-- a number put in both -/
theorem c_put {k i : Nat} {z : Nat} (hz : z ≤ 40) (hi : i < z) {v w : Int64} {B : J1} {Z : M1} (h1 : Z 1 = nI z) (h0 : ¬ Z 0 = 0) (h2 : Z 0 = 0 ∨ Z 0 = 8 ∨ Z 0 = 16 ∨ Z 0 = 64) (hw : fX6_narrow (Z 0) v = some w) : fX2_put (nI i) v B Z = some (vp_updL B i w) := by
  unfold fX2_put fX2_put_c77
  rw [h1, show nI z - (1 : Int32) = nI (z - 1) from n_sub (b := 1) (by omega), within_true (show (0 : Int32) ≤ nI i ∧ nI i ≤ nI (z - 1) from rng_of (a := 0) (by decide) (by omega) (by omega) (by omega)), bind_eq, ifn10, letb_eq]
  rw [g_inb (by omega) (by omega), g_inb (by omega) (by omega), g_inb (by omega) (by omega), n_cl (by omega), letb_eq, letb_eq, letb_eq]
  rcases h2 with e | e | e | e
  · exact absurd e h0
  · rw [e, m_nar8] at hw
    rw [e, if_pos rfl, ← Option.some.inj hw]
  · rw [e, m_nar16] at hw
    rw [e, if_neg (by decide), if_pos rfl, ← Option.some.inj hw]
  · rw [e, m_nar64] at hw
    rw [e, if_neg (by decide), if_neg (by decide), ← Option.some.inj hw]
theorem nar_ex (y : Int32) (v : Int64) : ∃ w, fX6_narrow y v = some w := by
  unfold fX6_narrow fX6_narrow_c33
  split
  · exact ⟨_, rfl⟩
  · split
    · exact ⟨_, rfl⟩
    · exact ⟨_, rfl⟩
theorem Rel.put (h : Rel R1 R2 R3 K T SN SZ F G J) {k i : Nat} (hk : k < 4) (hi : i < 40) (w : Int64) : Rel R1 R2 R3 K T (st2 SN k (vp_updL (SN k) i w)) SZ F G (st2 J 1 (vp_updL (J 1) (40 * k + i) w)) := by
  obtain ⟨h1, h2, ⟨h3, h5⟩, h4⟩ := h
  refine ⟨h1, h2, ⟨h3, ?_⟩, h4⟩
  intro k' i' hk' hi'
  rw [st2_eq]
  unfold vp_updL
  by_cases e : k' = k
  · subst e
    rw [st2_eq]
    by_cases e2 : i' = i
    · subst e2
      rw [if_pos rfl, if_pos rfl]
    · rw [if_neg e2, if_neg (by omega)]
      exact h5 k' i' hk' hi'
  · rw [st2_ne _ _ e, if_neg (by omega)]
    exact h5 k' i' hk' hi'
theorem e_write (h : Rel R1 R2 R3 K T SN SZ F G J) (x1 x2 : Int32) (x3 : Int64) : ∃ r SN' F' G' J', fX5_write x1 x2 x3 R1 R2 R3 K T SN SZ F = some (r, SN', F') ∧ fX6_write x1 x2 x3 G J = some (r, G', J') ∧ Rel R1 R2 R3 K T SN' SZ F' G' J' := by
  unfold fX5_write fX6_write
  by_cases hs : (0 : Int32) ≤ x1 ∧ x1 ≤ 3
  · obtain ⟨k, -, hk3, rfl⟩ := rng (a := 0) (b := 3) (by decide) (by decide) hs
    obtain ⟨s0, s1, s2, z, hz, s3, s4⟩ := h.sh (k := k) (by omega)
    rw [if_pos (n_inb (by omega) (by omega)), letb_eq, n_cl (by omega), m_shY hs, bind_eq, ifn10, g_inb (by omega) (by omega)]
    by_cases h0 : G 6 k = 0
    · rw [c_missY (by rw [s0]; exact h0), bind_eq, ifn10, if_pos h0, c_tell5, m_find5, bind2_eq, bind2_eq]
      exact ⟨_, _, _, _, _, rfl, rfl, h.find 5⟩
    · rw [c_missN (by rw [s0]; exact h0), bind_eq, ifp00, if_neg h0, g_inb (by omega) (by omega), s1]
      by_cases hv : (0 : Int32) ≤ x2 ∧ x2 ≤ G 7 k - 1
      · have hzp : 1 ≤ z := by
          apply Nat.pos_of_ne_zero
          intro e
          rw [s3, e] at hv
          exact absurd (Int32.le_trans hv.1 hv.2) (by decide)
        have e7 : G 7 k - 1 = nI (z - 1) := by rw [s3]; exact n_sub (b := 1) hzp
        rw [e7] at hv ⊢
        obtain ⟨i, -, hi, rfl⟩ := rng (a := 0) (b := z - 1) (by decide) (by omega) hv
        obtain ⟨w, hw⟩ := nar_ex (G 6 k) x3
        rw [within_true hv, bind_eq, ifn10, in_true hv, bind_eq, ifn10, g_inb (by omega) (by omega), n_cl (by omega), letb_eq, c_put (k := k) (z := z) hz (by omega) (w := w) (by rw [s1, s3]) (by rw [s0]; exact h0) (by rw [s0]; exact s2) (by rw [s0]; exact hw), bind_eq, letb_eq, n_40k, g_inb (by omega) (by omega), n_cl (by omega), letb_eq, g_inb (by omega) (by omega), hw, bind_eq, g_inb (by omega) (by omega), letb_eq, ← h.cell (by omega) (by omega)]
        exact ⟨_, _, _, _, _, rfl, rfl, h.put (by omega) (by omega) w⟩
      · rw [within_false hv, bind_eq, ifp00, in_false hv, bind_eq, ifp00, c_tell0, m_find0, bind2_eq, bind2_eq]
        exact ⟨_, _, _, _, _, rfl, rfl, h.find 0⟩
  · rw [if_neg (by rw [sh_no hs]; decide), m_shN hs, bind_eq, ifp00, c_tell0, m_find0, bind2_eq, bind2_eq]
    exact ⟨_, _, _, _, _, rfl, rfl, h.find 0⟩
end SH
