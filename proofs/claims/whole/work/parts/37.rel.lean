-- ===== the relation of the two =====
def RelL (R1 R2 R3 : M2) (K : Int32) (g1 g3 g4 g8 g9 : M1) (k8 : Int32) : Prop :=
  ∃ (R : Rw) (u d : Int32) (Rt : Rw) (ut dt : Int32) (Rk : Rw) (uk dk : Int32) (T3 T4 T8 T9 : Rw), Inv 9999 R ∧ R1 = encL R u d ∧ R2 = encL Rt ut dt ∧ R3 = encL Rk uk dk ∧ g1 = encG R ∧ g3 = encG T3 ∧ g4 = encG T4 ∧ g8 = encG T8 ∧ g9 = encG T9 ∧ (K = 0 ∨ K = 1) ∧ k8 = K ∧ (K = 1 → Inv 9999 Rk ∧ T8 = Rk)
def RelT (T : M2) (g5 : M1) (n2 : Int32) : Prop := ∃ tl : Nat, tl ≤ 120 ∧ T 0 0 = nI tl ∧ n2 = nI tl ∧ (∀ j, j < 120 → T 1 j = g5 j) ∧ ∀ j, j < 120 → ∃ b, b < 256 ∧ g5 j = nI b
def RelS (SN : J2) (SZ : M2) (g6 g7 : M1) (j1 : J1) : Prop :=
  (∀ k, k < 4 → SZ k 0 = g6 k ∧ SZ k 1 = g7 k ∧ (g6 k = 0 ∨ g6 k = 8 ∨ g6 k = 16 ∨ g6 k = 64) ∧ ∃ z, z ≤ 40 ∧ g7 k = nI z ∧ (g6 k = 0 → z = 0)) ∧ ∀ k i, k < 4 → i < 40 → SN k i = j1 (40 * k + i)
def Rel (R1 R2 R3 : M2) (K : Int32) (T : M2) (SN : J2) (SZ : M2) (F : M1) (G : M2) (J : J2) : Prop :=
  RelL R1 R2 R3 K (G 1) (G 3) (G 4) (G 8) (G 9) (G 0 8) ∧ RelT T (G 5) (G 0 2) ∧ RelS SN SZ (G 6) (G 7) (J 1) ∧ F = G 2
section RR
variable {R1 R2 R3 : M2} {K : Int32} {T : M2} {SN : J2} {SZ : M2} {F : M1} {G : M2} {J : J2}
theorem mG_self {R : Rw} (h : G 1 = encG R) : mG G R = G := by
  unfold mG
  rw [← h, st2_same]
theorem Rel.real (h : Rel R1 R2 R3 K T SN SZ F G J) : ∃ (R : Rw) (u d : Int32), Inv 9999 R ∧ R1 = encL R u d ∧ G 1 = encG R := by
  obtain ⟨⟨R, u, d, Rt, ut, dt, Rk, uk, dk, T3, T4, T8, T9, hI, e1, e2, e3, e4, e5⟩, -⟩ := h
  exact ⟨R, u, d, hI, e1, e4⟩
theorem Rel.find (h : Rel R1 R2 R3 K T SN SZ F G J) (i : Nat) : Rel R1 R2 R3 K T SN SZ (upd F i (F i + 1)) (st2 G 2 (upd (G 2) i (G 2 i + 1))) J := by
  obtain ⟨h1, h2, h3, h4⟩ := h
  unfold Rel
  simp (disch := decide) only [st2_ne, st2_eq]
  exact ⟨h1, h2, h3, by rw [h4]⟩
theorem Rel.set (h : Rel R1 R2 R3 K T SN SZ F G J) {R : Rw} {u d : Int32} (hI : Inv 9999 R) (c w : Int32) : Rel (encL R u d) R2 R3 K T SN SZ F (mG (cw G c w) R) J := by
  obtain ⟨⟨R0, u0, d0, Rt, ut, dt, Rk, uk, dk, T3, T4, T8, T9, hI0, e1, e2, e3, e4, e5, e6, e7, e8, e9, e10, e11⟩, h2, h3, h4⟩ := h
  unfold Rel
  simp (disch := decide) only [mG_a, mG_1, cw_a, cw_0j]
  exact ⟨⟨R, u, d, Rt, ut, dt, Rk, uk, dk, T3, T4, T8, T9, hI, rfl, e2, e3, rfl, e5, e6, e7, e8, e9, e10, e11⟩, h2, h3, h4⟩
theorem Rel.set0 (h : Rel R1 R2 R3 K T SN SZ F G J) {R : Rw} {u d : Int32} (hI : Inv 9999 R) : Rel (encL R u d) R2 R3 K T SN SZ F (mG G R) J := by
  have q := h.set (u := u) (d := d) hI (G 0 0) (G 0 1)
  rw [cw_self] at q
  exact q
/-- a question: the trial light and the model's tried row are used, the rest is as it was -/
theorem Rel.ask (h : Rel R1 R2 R3 K T SN SZ F G J) {R : Rw} (hG : G 1 = encG R) (Rt : Rw) (ut dt c w : Int32) : Rel R1 (encL Rt ut dt) R3 K T SN SZ F (mG (cw (st2 G 3 (encG R)) c w) R) J := by
  obtain ⟨⟨R0, u0, d0, Rt0, ut0, dt0, Rk, uk, dk, T3, T4, T8, T9, hI0, e1, e2, e3, e4, e5, e6, e7, e8, e9, e10, e11⟩, h2, h3, h4⟩ := h
  unfold Rel
  simp (disch := decide) only [mG_a, mG_1, cw_a, cw_0j, st2_ne, st2_eq]
  rw [hG] at e4
  exact ⟨⟨R0, u0, d0, Rt, ut, dt, Rk, uk, dk, R, T4, T8, T9, hI0, e1, rfl, e3, e4, rfl, e6, e7, e8, e9, e10, e11⟩, h2, h3, h4⟩
theorem Rel.trial (h : Rel R1 R2 R3 K T SN SZ F G J) : ∃ (Rt : Rw) (ut dt : Int32), R2 = encL Rt ut dt := by
  obtain ⟨⟨R0, u0, d0, Rt0, ut0, dt0, Rk, uk, dk, T3, T4, T8, T9, hI0, e1, e2, e3⟩, -⟩ := h
  exact ⟨_, _, _, e2⟩
theorem Rel.rows (h : Rel R1 R2 R3 K T SN SZ F G J) : ∃ (T3 T4 T8 T9 : Rw), G 3 = encG T3 ∧ G 4 = encG T4 ∧ G 8 = encG T8 ∧ G 9 = encG T9 := by
  obtain ⟨⟨R0, u0, d0, Rt0, ut0, dt0, Rk, uk, dk, T3, T4, T8, T9, hI0, e1, e2, e3, e4, e5, e6, e7, e8, e9, e10, e11⟩, -⟩ := h
  exact ⟨T3, T4, T8, T9, e5, e6, e7, e8⟩
-- ===== the scripts' numbers =====
theorem fX6_in_eq (x a b : Int32) : fX6_in x a b = some (if a ≤ x ∧ x ≤ b then 1 else 0) := fX5_within_eq x a b
theorem in_true {x a b : Int32} (h : a ≤ x ∧ x ≤ b) : fX6_in x a b = some 1 := within_true h
theorem in_false {x a b : Int32} (h : ¬ (a ≤ x ∧ x ≤ b)) : fX6_in x a b = some 0 := within_false h
theorem rng {x : Int32} {a b : Nat} (ha : a < 2147483648) (hb : b < 2147483648) (h : nI a ≤ x ∧ x ≤ nI b) : ∃ k, a ≤ k ∧ k ≤ b ∧ x = nI k := by
  rw [fa_le, fa_le, nI_toInt ha, nI_toInt hb] at h
  refine ⟨x.toInt.toNat, by omega, by omega, ?_⟩
  apply Int32.toInt_inj.mp
  rw [nI_toInt (by omega)]
  omega
theorem rng_of {a b k : Nat} (ha : a < 2147483648) (hb : b < 2147483648) (h1 : a ≤ k) (h2 : k ≤ b) : nI a ≤ nI k ∧ nI k ≤ nI b := ⟨i_le ha (by omega) h1, i_le (by omega) hb h2⟩
theorem ifn10 {β : Type} (a b : β) : (if (1 : Int32) = 0 then a else b) = b := rfl
theorem ifp00 {β : Type} (a b : β) : (if (0 : Int32) = 0 then a else b) = a := rfl
theorem m_one {D : Nat} {R : Rw} (hI : Inv D R) {x : Int32} (h : isK R x) : fX6_isOne x (mG G R) J = some 1 := by
  have h6 := hI.many
  unfold fX6_isOne
  rw [g_6, t_6, mG_r (by decide), in_true, bind_eq]
  · rfl
  · rw [fa_le, fa_le, i_sub1 (by omega)]
    have h0 : (0 : Int32).toInt = 0 := rfl
    have := h.1; have := h.2
    omega
theorem m_oneN {D : Nat} {R : Rw} (hI : Inv D R) {x : Int32} (h : ¬ isK R x) : fX6_isOne x (mG G R) J = some 0 := by
  have h6 := hI.many
  unfold fX6_isOne
  rw [g_6, t_6, mG_r (by decide), in_false, bind_eq]
  · rfl
  · rw [fa_le, fa_le, i_sub1 (by omega)]
    have h0 : (0 : Int32).toInt = 0 := rfl
    unfold isK at h
    omega
theorem c_kindT {x : Int32} (h : (0 : Int32) ≤ x ∧ x ≤ 5) : fX5_isKind x = some 1 := by unfold fX5_isKind; rw [within_true h]; rfl
theorem c_kindF {x : Int32} (h : ¬ ((0 : Int32) ≤ x ∧ x ≤ 5)) : fX5_isKind x = some 0 := by unfold fX5_isKind; rw [within_false h]; rfl
theorem m_kindT {x : Int32} (h : (0 : Int32) ≤ x ∧ x ≤ 5) : fX6_isKind x = some 1 := by unfold fX6_isKind; rw [in_true h]; rfl
theorem m_kindF {x : Int32} (h : ¬ ((0 : Int32) ≤ x ∧ x ≤ 5)) : fX6_isKind x = some 0 := by unfold fX6_isKind; rw [in_false h]; rfl
theorem c_wordT {x : Int32} (h : (0 : Int32) ≤ x ∧ x ≤ 8) : fX5_isWord x = some 1 := by unfold fX5_isWord; rw [within_true h]; rfl
theorem c_wordF {x : Int32} (h : ¬ ((0 : Int32) ≤ x ∧ x ≤ 8)) : fX5_isWord x = some 0 := by unfold fX5_isWord; rw [within_false h]; rfl
theorem m_becomes {R : Rw} {j v : Nat} (hj : j < 75) : fX6_becomes (nI j) (nI v) (mG G R) J = some (nI (R j), mG G (wr R j v)) := by
  unfold fX6_becomes
  simp (disch := omega) only [g_inb, n_cl, mG_r, mG_s, letb_eq]
-- ===== sea =====
theorem e_sea (h : Rel R1 R2 R3 K T SN SZ F G J) (x1 x2 : Int32) : ∃ r R1' F' G', fX5_sea x1 x2 R1 R2 R3 K T SN SZ F = some (r, R1', F') ∧ fX6_sea x1 x2 G J = some (r, G') ∧ Rel R1' R2 R3 K T SN SZ F' G' J := by
  obtain ⟨R, u, d, hI, rfl, hG⟩ := h.real
  by_cases hp : (0 : Int32) ≤ x1 ∧ x1 ≤ 27
  · by_cases hv : (0 : Int32) ≤ x2 ∧ x2 ≤ 12
    · obtain ⟨k, -, hk, rfl⟩ := rng (a := 0) (b := 27) (by decide) (by decide) hp
      obtain ⟨v, -, hv2, rfl⟩ := rng (a := 0) (b := 12) (by decide) (by decide) hv
      refine ⟨nI (R (7 + k)), encL (wr R (7 + k) v) u d, F, mG G (wr R (7 + k) v), ?_, ?_, h.set0 (Inv.set hI ?_ (by omega))⟩
      · unfold fX5_sea
        simp (disch := omega) only [within_true hp, within_true hv, bind_eq, ifn10, g_inb, n_cl, encL_1, encL_s1, letb_eq]
      · rw [← mG_self hG]
        unfold fX6_sea fX6_sea_c38
        rw [in_true hp, bind_eq, ifn10, in_true hv, bind_eq, ifn10, show (7 : Int32) + nI k = nI (7 + k) from n_add 7 k, m_becomes (by omega), bind2_eq, mG_self hG]
      · have e : bnd 9999 (7 + k) = 12 := by
          unfold bnd
          rw [if_neg (by omega), if_neg (by omega), if_neg (by omega), if_neg (by omega), if_neg (by omega), if_neg (by omega), if_neg (by omega), if_pos (by omega)]
        rw [e]; exact hv2
    · refine ⟨(-1000000001 : Int32), _, _, _, ?_, ?_, h.find 0⟩
      · unfold fX5_sea fX5_sea_c20
        rw [within_true hp, bind_eq, ifn10, within_false hv, bind_eq, ifp00, c_tell0, bind2_eq]
      · unfold fX6_sea fX6_sea_c32 fX6_sea_c38
        rw [in_true hp, bind_eq, ifn10, in_false hv, bind_eq, ifp00, m_find0, bind2_eq]
  · refine ⟨(-1000000001 : Int32), _, _, _, ?_, ?_, h.find 0⟩
    · unfold fX5_sea fX5_sea_c20
      rw [within_false hp, bind_eq, ifp00, c_tell0, bind2_eq]
    · unfold fX6_sea fX6_sea_c32 fX6_sea_c38
      rw [in_false hp, bind_eq, ifp00, m_find0, bind2_eq]
end RR
