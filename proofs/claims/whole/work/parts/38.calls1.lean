section C1
variable {R1 R2 R3 : M2} {K : Int32} {T : M2} {SN : J2} {SZ : M2} {F : M1} {G : M2} {J : J2}
theorem e_day (h : Rel R1 R2 R3 K T SN SZ F G J) (x1 x2 : Int32) : ∃ r F' G', fX5_day x1 x2 R1 R2 R3 K T SN SZ F = some (r, F') ∧ fX6_day x1 x2 G J = some (r, G') ∧ Rel R1 R2 R3 K T SN SZ F' G' J := by
  obtain ⟨R, u, d, hI, rfl, hG⟩ := h.real
  by_cases hp : (0 : Int32) ≤ x1 ∧ x1 ≤ 9999
  · by_cases hw : (0 : Int32) ≤ x2 ∧ x2 ≤ 2
    · obtain ⟨n, -, hn, rfl⟩ := rng (a := 0) (b := 9999) (by decide) (by decide) hp
      obtain ⟨w, -, hw2, rfl⟩ := rng (a := 0) (b := 2) (by decide) (by decide) hw
      have hm := Nat.mod_lt n (by decide : 0 < 28)
      rcases (show w = 0 ∨ w = 1 ∨ w = 2 by omega) with rfl | rfl | rfl
      · refine ⟨nI (R (7 + n % 28)), F, G, ?_, ?_, h⟩
        · unfold fX5_day
          rw [within_true hp, bind_eq, ifn10, if_pos (show nI 0 = (0 : Int32) from rfl), c_sea hI (by omega), bind_eq]
        · have q : fX6_day (nI n) (nI 0) (mG G R) J = some (nI (R (7 + n % 28)), mG G R) := by
            unfold fX6_day fX6_day_c72
            rw [in_true hp, bind_eq, ifn10, in_true hw, bind_eq, ifn10, if_pos (show nI 0 = (0 : Int32) from rfl)]
            simp (disch := omega) only [n_28, n_7, n_rem, n_add, g_inb, n_cl, mG_r]
          rw [mG_self hG] at q; exact q
      · refine ⟨if R 1 ≤ R (7 + n % 28) then 1 else 0, F, G, ?_, ?_, h⟩
        · unfold fX5_day fX5_day_c69
          rw [within_true hp, bind_eq, ifn10, if_neg (by decide), if_pos (show nI 1 = (1 : Int32) from rfl), c_gale hI (by omega), bind_eq]
          by_cases hc : R 1 ≤ R (7 + n % 28)
          · rw [if_pos hc, ifn10]
          · rw [if_neg hc, ifp00]
        · have q : fX6_day (nI n) (nI 1) (mG G R) J = some (if R 1 ≤ R (7 + n % 28) then 1 else 0, mG G R) := by
            have hs := secS_le hI n
            unfold fX6_day fX6_day_c72
            rw [in_true hp, bind_eq, ifn10, in_true hw, bind_eq, ifn10, if_neg (by decide), if_pos (show nI 1 = (1 : Int32) from rfl), m_sec hI (by omega), bind_eq]
            by_cases hc : R 1 ≤ R (7 + n % 28)
            · have e : secS R n = R (7 + n % 28) - R 1 + 1 := by unfold secS; rw [if_pos hc]
              rw [if_pos hc, if_neg (show ¬ nI (secS R n) ≤ 0 from i_nle (b := 0) (by omega) (by decide) (by omega))]
            · have e : secS R n = 0 := by unfold secS; rw [if_neg hc]
              rw [if_neg hc, e, if_pos (by decide)]
          rw [mG_self hG] at q; exact q
      · refine ⟨nI (secS R n), F, G, ?_, ?_, h⟩
        · unfold fX5_day
          rw [within_true hp, bind_eq, ifn10, if_neg (by decide), if_neg (by decide), if_pos (show nI 2 = (2 : Int32) from rfl), c_sec hI (by omega), bind_eq]
        · have q : fX6_day (nI n) (nI 2) (mG G R) J = some (nI (secS R n), mG G R) := by
            unfold fX6_day fX6_day_c72
            rw [in_true hp, bind_eq, ifn10, in_true hw, bind_eq, ifn10, if_neg (by decide), if_neg (by decide), m_sec hI (by omega), bind_eq]
          rw [mG_self hG] at q; exact q
    · have w0 : ¬ x2 = 0 := fun e => hw (by rw [e]; decide)
      have w1 : ¬ x2 = 1 := fun e => hw (by rw [e]; decide)
      have w2 : ¬ x2 = 2 := fun e => hw (by rw [e]; decide)
      refine ⟨(-1000000001 : Int32), _, _, ?_, ?_, h.find 0⟩
      · simp only [fX5_day, within_true hp, if_neg w0, if_neg w1, if_neg w2, bind_eq, bind2_eq, ifn10, reduceIte, c_tell0]
      · rw [← mG_self hG]
        simp only [fX6_day, fX6_day_c20, in_true hp, in_false hw, bind_eq, bind2_eq, ifn10, reduceIte, m_find0]
  · refine ⟨(-1000000001 : Int32), _, _, ?_, ?_, h.find 0⟩
    · simp only [fX5_day, within_false hp, bind_eq, bind2_eq, ifn10, reduceIte, c_tell0]
    · rw [← mG_self hG]
      simp only [fX6_day, fX6_day_c20, in_false hp, bind_eq, bind2_eq, ifn10, reduceIte, m_find0]
theorem e_turn (h : Rel R1 R2 R3 K T SN SZ F G J) (x1 x2 : Int32) : ∃ r R1' F' G', fX5_turn x1 x2 R1 R2 R3 K T SN SZ F = some (r, R1', F') ∧ fX6_turn x1 x2 G J = some (r, G') ∧ Rel R1' R2 R3 K T SN SZ F' G' J := by
  obtain ⟨R, u, d, hI, rfl, hG⟩ := h.real
  have h6 := hI.many
  by_cases hp : isK R x1
  · by_cases hw : (0 : Int32) ≤ x2 ∧ x2 ≤ 5
    · obtain ⟨k, hk, rfl⟩ := isK_nat hp
      obtain ⟨w, -, hw2, rfl⟩ := rng (a := 0) (b := 5) (by decide) (by decide) hw
      refine ⟨nI (R (35 + 5 * k)), encL (wr R (35 + 5 * k) w) u d, F, mG G (wr R (35 + 5 * k) w), ?_, ?_, h.set0 (Inv.set hI (by rw [bnd_kind]; exact hw2) (by omega))⟩
      · unfold fX5_turn
        rw [c_has hI hp, bind_eq, ifn10, c_kindT hw, bind_eq, ifn10]
        simp (disch := omega) only [g_inb, n_cl, encL_2, encL_s2, letb_eq]
      · have q : fX6_turn (nI k) (nI w) (mG G R) J = some (nI (R (35 + 5 * k)), mG G (wr R (35 + 5 * k) w)) := by
          unfold fX6_turn fX6_turn_c35
          rw [m_one hI hp, bind_eq, ifn10, m_kindT hw, bind_eq, ifn10]
          simp (disch := omega) only [n_35, n_5, n_mul, n_add, m_becomes, bind2_eq]
        rw [mG_self hG] at q; exact q
    · refine ⟨(-1000000001 : Int32), _, _, _, ?_, ?_, h.find 0⟩
      · simp only [fX5_turn, fX5_turn_c18, c_has hI hp, c_kindF hw, bind_eq, bind2_eq, ifn10, reduceIte, c_tell0]
      · have q : fX6_turn x1 x2 (mG G R) J = some ((-1000000001 : Int32), st2 (mG G R) 2 (upd (mG G R 2) 0 (mG G R 2 0 + 1))) := by
          simp only [fX6_turn, fX6_turn_c29, fX6_turn_c35, m_one hI hp, m_kindF hw, bind_eq, bind2_eq, ifn10, reduceIte, m_find0]
        rw [mG_self hG] at q; exact q
  · refine ⟨(-1000000001 : Int32), _, _, _, ?_, ?_, h.find 0⟩
    · simp only [fX5_turn, fX5_turn_c18, c_hasN hI hp, bind_eq, bind2_eq, ifn10, reduceIte, c_tell0]
    · have q : fX6_turn x1 x2 (mG G R) J = some ((-1000000001 : Int32), st2 (mG G R) 2 (upd (mG G R 2) 0 (mG G R 2 0 + 1))) := by
        simp only [fX6_turn, fX6_turn_c29, fX6_turn_c35, m_oneN hI hp, bind_eq, bind2_eq, ifn10, reduceIte, m_find0]
      rw [mG_self hG] at q; exact q
end C1
