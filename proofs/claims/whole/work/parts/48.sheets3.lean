section SJ
variable {R1 R2 R3 : M2} {K : Int32} {T : M2} {SN : J2} {SZ : M2} {F : M1} {G : M2} {J : J2}
theorem lay_num {v : Int64} (h1 : ¬ lg_cmp v 0 < 0) (h2 : ¬ 0 < lg_cmp v 12) : ∃ a, a ≤ 12 ∧ v.toInt32 = nI a := by
  have a1 : (0 : Int64) ≤ v := (lg_cmp_ge v 0).mp (Int32.not_lt.mp h1)
  have a2 : ¬ v > 12 := by
    intro hg
    apply h2
    unfold lg_cmp
    rw [if_pos hg]
    decide
  have a3 : v ≤ 12 := Int64.not_lt.mp a2
  rw [Int64.le_iff_toInt_le] at a1 a3
  have e0 : (0 : Int64).toInt = 0 := rfl
  have e12 : (12 : Int64).toInt = 12 := rfl
  rw [e0] at a1
  rw [e12] at a3
  rcases (show v.toInt = 0 ∨ v.toInt = 1 ∨ v.toInt = 2 ∨ v.toInt = 3 ∨ v.toInt = 4 ∨ v.toInt = 5 ∨ v.toInt = 6 ∨ v.toInt = 7 ∨ v.toInt = 8 ∨ v.toInt = 9 ∨ v.toInt = 10 ∨ v.toInt = 11 ∨ v.toInt = 12 by omega) with e | e | e | e | e | e | e | e | e | e | e | e | e
  · rw [show v = 0 from Int64.toInt_inj.mp (by rw [e]; rfl)]; exact ⟨0, by omega, rfl⟩
  · rw [show v = 1 from Int64.toInt_inj.mp (by rw [e]; rfl)]; exact ⟨1, by omega, rfl⟩
  · rw [show v = 2 from Int64.toInt_inj.mp (by rw [e]; rfl)]; exact ⟨2, by omega, rfl⟩
  · rw [show v = 3 from Int64.toInt_inj.mp (by rw [e]; rfl)]; exact ⟨3, by omega, rfl⟩
  · rw [show v = 4 from Int64.toInt_inj.mp (by rw [e]; rfl)]; exact ⟨4, by omega, rfl⟩
  · rw [show v = 5 from Int64.toInt_inj.mp (by rw [e]; rfl)]; exact ⟨5, by omega, rfl⟩
  · rw [show v = 6 from Int64.toInt_inj.mp (by rw [e]; rfl)]; exact ⟨6, by omega, rfl⟩
  · rw [show v = 7 from Int64.toInt_inj.mp (by rw [e]; rfl)]; exact ⟨7, by omega, rfl⟩
  · rw [show v = 8 from Int64.toInt_inj.mp (by rw [e]; rfl)]; exact ⟨8, by omega, rfl⟩
  · rw [show v = 9 from Int64.toInt_inj.mp (by rw [e]; rfl)]; exact ⟨9, by omega, rfl⟩
  · rw [show v = 10 from Int64.toInt_inj.mp (by rw [e]; rfl)]; exact ⟨10, by omega, rfl⟩
  · rw [show v = 11 from Int64.toInt_inj.mp (by rw [e]; rfl)]; exact ⟨11, by omega, rfl⟩
  · rw [show v = 12 from Int64.toInt_inj.mp (by rw [e]; rfl)]; exact ⟨12, by omega, rfl⟩
theorem bnd_sea {D i : Nat} (hi : i < 28) : bnd D (7 + i) = 12 := by
  unfold bnd
  rw [if_neg (by omega), if_neg (by omega), if_neg (by omega), if_neg (by omega), if_neg (by omega), if_neg (by omega), if_neg (by omega), if_pos (by omega)]
theorem lays_lp {k : Nat} (hk : k < 4) : ∀ m i fuel {R1 G : M2} {y : Int32}, Rel R1 R2 R3 K T SN SZ F G J → i + m = 28 → m < fuel → ∃ r R1' G', fX5_lays_c36 fuel k y (nI i) R1 R2 R3 K T SN SZ F = some (r, R1', F) ∧ fX6_lays_c21 fuel (nI k) y (nI i) G J = some (r, G') ∧ Rel R1' R2 R3 K T SN SZ F G' J := by
  intro m
  induction m with
  | zero =>
    intro i fuel R1 G y h hi hf
    obtain ⟨f, rfl⟩ : ∃ f, fuel = f + 1 := ⟨fuel - 1, by omega⟩
    have hg : (28 : Int32) ≤ nI i := i_le (a := 28) (by decide) (by omega) (by omega)
    obtain ⟨s0, s1, s2, -⟩ := h.sh (k := k) hk
    refine ⟨y, R1, G, ?_, ?_, h⟩
    · rw [fX5_lays_c36, if_pos hg]
      unfold fX5_lays_c99
      split <;> rfl
    · rw [fX6_lays_c21, g_inb (by omega) (by omega), if_pos hg]
      unfold fX6_lays_c91
      split <;> rfl
  | succ m ih =>
    intro i fuel R1 G y h hi hf
    obtain ⟨f, rfl⟩ : ∃ f, fuel = f + 1 := ⟨fuel - 1, by omega⟩
    have hg : ¬ (28 : Int32) ≤ nI i := i_nle (a := 28) (by decide) (by omega) (by omega)
    obtain ⟨s0, s1, s2, -⟩ := h.sh (k := k) hk
    obtain ⟨R, u, d, hI, rfl, hG⟩ := h.real
    rw [fX5_lays_c36, fX6_lays_c21, s1, g_inb (a := k) (by omega) (by omega), n_cl (a := k) (by omega)]
    by_cases hz : G 7 k ≤ nI i
    · rw [if_pos hz, if_pos hz]
      exact ⟨y, encL R u d, G, rfl, rfl, h⟩
    · rw [if_neg hz, if_neg hz, if_neg hg, if_neg hg, g_inb (a := i) (by omega) (by omega), n_cl (a := i) (by omega), n_40k, g_inb (a := 40 * k + i) (by omega) (by omega), n_cl (a := 40 * k + i) (by omega), ← h.cell hk (show i < 40 by omega)]
      unfold fX5_lays_c93 fX6_lays_c85
      simp only [letb_eq]
      by_cases c1 : lg_cmp (SN k i) 0 < 0
      · rw [if_pos c1, if_pos c1, show nI i + (1 : Int32) = nI (i + 1) from n_add i 1]
        exact ih (i + 1) f h (by omega) (by omega)
      · rw [if_neg c1, if_neg c1]
        by_cases c2 : 0 < lg_cmp (SN k i) 12
        · rw [if_pos c2, if_pos c2, show nI i + (1 : Int32) = nI (i + 1) from n_add i 1]
          exact ih (i + 1) f h (by omega) (by omega)
        · obtain ⟨a, ha, ea⟩ := lay_num c1 c2
          have h' := h.set0 (R := wr R (7 + i) a) (u := u) (d := d) (Inv.set hI (by rw [bnd_sea (by omega)]; exact ha) (by omega))
          have em : st2 G 1 (upd (G 1) (7 + i) (nI a)) = mG G (wr R (7 + i) a) := by
            have q := mG_s (G := G) (R := R) (j := 7 + i) (v := a) (by omega)
            rw [mG_self hG] at q
            exact q
          rw [if_neg c2, if_neg c2, ea, g_inb (a := i) (by omega) (by omega), encL_s1 (by omega), show (7 : Int32) + nI i = nI (7 + i) from n_add 7 i, g_inb (a := 7 + i) (by omega) (by omega), n_cl (a := 7 + i) (by omega), em, show nI i + (1 : Int32) = nI (i + 1) from n_add i 1]
          exact ih (i + 1) f h' (by omega) (by omega)
theorem e_lays (h : Rel R1 R2 R3 K T SN SZ F G J) (x1 : Int32) : ∃ r R1' F' G', fX5_lays x1 R1 R2 R3 K T SN SZ F = some (r, R1', F') ∧ fX6_lays x1 G J = some (r, G') ∧ Rel R1' R2 R3 K T SN SZ F' G' J := by
  unfold fX5_lays fX6_lays
  by_cases hs : (0 : Int32) ≤ x1 ∧ x1 ≤ 3
  · obtain ⟨k, -, hk3, rfl⟩ := rng (a := 0) (b := 3) (by decide) (by decide) hs
    obtain ⟨s0, s1, s2, z, hz, s3, s4⟩ := h.sh (k := k) (by omega)
    rw [if_pos (n_inb (by omega) (by omega)), letb_eq, n_cl (by omega)]
    by_cases h0 : G 6 k = 0
    · rw [c_missY (by rw [s0]; exact h0), bind_eq, ifn10, m_badM (by omega) h0, bind_eq, if_neg (show ¬ (-1000000006 : Int32) = 0 by decide), c_tell5, m_find5, bind2_eq, bind2_eq]
      exact ⟨_, _, _, _, rfl, rfl, h.find 5⟩
    · obtain ⟨r, R1', G', q1, q2, q3⟩ := lays_lp (k := k) (by omega) 28 0 FU (y := 0) h (by omega) (by rw [FU_eq]; omega)
      rw [c_missN (by rw [s0]; exact h0), bind_eq, ifp00, m_badY (by omega) h0, bind_eq, ifp00]
      exact ⟨r, R1', F, G', q1, q2, q3⟩
  · rw [if_neg (by rw [sh_no hs]; decide), m_badN hs, bind_eq, if_neg (show ¬ (-1000000001 : Int32) = 0 by decide), c_tell0, m_find0, bind2_eq, bind2_eq]
    exact ⟨_, _, _, _, rfl, rfl, h.find 0⟩
end SJ
