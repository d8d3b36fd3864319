section C2
variable {R1 R2 R3 : M2} {K : Int32} {T : M2} {SN : J2} {SZ : M2} {F : M1} {G : M2} {J : J2}
theorem tL_0 : tabL 0 = 0 := rfl
theorem tL_1 : tabL 1 = 0 := rfl
theorem tL_2 : tabL 2 = 1 := rfl
theorem tL_3 : tabL 3 = 0 := rfl
theorem tM_0 : tabM 0 = 12 := rfl
theorem tM_1 : tabM 1 = 9999 := rfl
theorem tM_2 : tabM 2 = 3 := rfl
theorem tM_3 : tabM 3 = 2 := rfl
theorem e_light (h : Rel R1 R2 R3 K T SN SZ F G J) (x1 x2 : Int32) : ∃ r R1' F' G', fX5_light x1 x2 R1 R2 R3 K T SN SZ F = some (r, R1', F') ∧ fX6_light x1 x2 G J = some (r, G') ∧ Rel R1' R2 R3 K T SN SZ F' G' J := by
  obtain ⟨R, u, d, hI, rfl, hG⟩ := h.real
  have h6 := hI.many
  by_cases hp : (0 : Int32) ≤ x1 ∧ x1 ≤ 3
  · obtain ⟨w, -, hw, rfl⟩ := rng (a := 0) (b := 3) (by decide) (by decide) hp
    rcases (show w = 0 ∨ w = 1 ∨ w = 2 ∨ w = 3 by omega) with rfl | rfl | rfl | rfl
    · by_cases hv : (0 : Int32) ≤ x2 ∧ x2 ≤ 12
      · obtain ⟨v, hv1, hv2, rfl⟩ := rng (a := 0) (b := 12) (by decide) (by decide) hv
        refine ⟨nI (R 1), encL (wr R 1 v) u d, F, mG G (wr R 1 v), ?_, ?_, h.set0 (Inv.set hI (show _ ≤ 12 by omega) (by omega))⟩
        · have em : fX1_measure (nI 0) (encL R u d) = some (nI (R 1)) := by
            show some (encL R u d 0 1) = _
            rw [encL_0 (by decide)]
          have ep : fX1_putMeasure (nI 0) (nI v) (encL R u d) = some (encL (wr R 1 v) u d) := by
            show some (st2 (encL R u d) 0 (upd (encL R u d 0) 1 (nI v))) = _
            rw [encL_s0 (by decide)]
          unfold fX5_light
          rw [within_true hp, bind_eq, ifn10, g_inb (by omega) (by omega), g_inb (by omega) (by omega), n_cl (by omega), tL_0, tM_0, within_true hv, bind_eq, ifn10, em, bind_eq, ep, bind_eq]
        · have q : fX6_light (nI 0) (nI v) (mG G R) J = some (nI (R 1), mG G (wr R 1 v)) := by
            have eb : fX6_becomes (1 : Int32) (nI v) (mG G R) J = some (nI (R 1), mG G (wr R 1 v)) := m_becomes (j := 1) (by omega)
            show (fX6_in (nI v) (0 : Int32) (12 : Int32)).bind _ = _
            rw [in_true hv, bind_eq, ifn10, eb, bind2_eq]
            rfl
          rw [mG_self hG] at q; exact q
      · refine ⟨(-1000000001 : Int32), _, _, _, ?_, ?_, h.find 0⟩
        · unfold fX5_light fX5_light_c26
          rw [within_true hp, bind_eq, ifn10, g_inb (by omega) (by omega), g_inb (by omega) (by omega), n_cl (by omega), tL_0, tM_0, within_false hv, bind_eq, ifp00, c_tell0, bind2_eq]
        · show (fX6_in x2 (0 : Int32) (12 : Int32)).bind _ = _
          rw [in_false hv, bind_eq, ifp00]
          rfl
    · by_cases hv : (0 : Int32) ≤ x2 ∧ x2 ≤ 9999
      · obtain ⟨v, hv1, hv2, rfl⟩ := rng (a := 0) (b := 9999) (by decide) (by decide) hv
        refine ⟨nI (R 2), encL (wr R 2 v) u d, F, mG G (wr R 2 v), ?_, ?_, h.set0 (Inv.set hI (show _ ≤ 9999 by omega) (by omega))⟩
        · have em : fX1_measure (nI 1) (encL R u d) = some (nI (R 2)) := by
            show some (encL R u d 0 2) = _
            rw [encL_0 (by decide)]
          have ep : fX1_putMeasure (nI 1) (nI v) (encL R u d) = some (encL (wr R 2 v) u d) := by
            show some (st2 (encL R u d) 0 (upd (encL R u d 0) 2 (nI v))) = _
            rw [encL_s0 (by decide)]
          unfold fX5_light
          rw [within_true hp, bind_eq, ifn10, g_inb (by omega) (by omega), g_inb (by omega) (by omega), n_cl (by omega), tL_1, tM_1, within_true hv, bind_eq, ifn10, em, bind_eq, ep, bind_eq]
        · have q : fX6_light (nI 1) (nI v) (mG G R) J = some (nI (R 2), mG G (wr R 2 v)) := by
            have eb : fX6_becomes (2 : Int32) (nI v) (mG G R) J = some (nI (R 2), mG G (wr R 2 v)) := m_becomes (j := 2) (by omega)
            show (fX6_in (nI v) (0 : Int32) (9999 : Int32)).bind _ = _
            rw [in_true hv, bind_eq, ifn10, eb, bind2_eq]
            rfl
          rw [mG_self hG] at q; exact q
      · refine ⟨(-1000000001 : Int32), _, _, _, ?_, ?_, h.find 0⟩
        · unfold fX5_light fX5_light_c26
          rw [within_true hp, bind_eq, ifn10, g_inb (by omega) (by omega), g_inb (by omega) (by omega), n_cl (by omega), tL_1, tM_1, within_false hv, bind_eq, ifp00, c_tell0, bind2_eq]
        · show (fX6_in x2 (0 : Int32) (9999 : Int32)).bind _ = _
          rw [in_false hv, bind_eq, ifp00]
          rfl
    · by_cases hv : (1 : Int32) ≤ x2 ∧ x2 ≤ 3
      · obtain ⟨v, hv1, hv2, rfl⟩ := rng (a := 1) (b := 3) (by decide) (by decide) hv
        refine ⟨nI (R 3), encL (wr R 3 v) u d, F, mG G (wr R 3 v), ?_, ?_, h.set0 (Inv.set hI (show _ ≤ 3 by omega) (by omega))⟩
        · have em : fX1_measure (nI 2) (encL R u d) = some (nI (R 3)) := by
            show some (encL R u d 0 3) = _
            rw [encL_0 (by decide)]
          have ep : fX1_putMeasure (nI 2) (nI v) (encL R u d) = some (encL (wr R 3 v) u d) := by
            show some (st2 (encL R u d) 0 (upd (encL R u d 0) 3 (nI v))) = _
            rw [encL_s0 (by decide)]
          unfold fX5_light
          rw [within_true hp, bind_eq, ifn10, g_inb (by omega) (by omega), g_inb (by omega) (by omega), n_cl (by omega), tL_2, tM_2, within_true hv, bind_eq, ifn10, em, bind_eq, ep, bind_eq]
        · have q : fX6_light (nI 2) (nI v) (mG G R) J = some (nI (R 3), mG G (wr R 3 v)) := by
            have eb : fX6_becomes (3 : Int32) (nI v) (mG G R) J = some (nI (R 3), mG G (wr R 3 v)) := m_becomes (j := 3) (by omega)
            show (fX6_in (nI v) (1 : Int32) (3 : Int32)).bind _ = _
            rw [in_true hv, bind_eq, ifn10, eb, bind2_eq]
            rfl
          rw [mG_self hG] at q; exact q
      · refine ⟨(-1000000001 : Int32), _, _, _, ?_, ?_, h.find 0⟩
        · unfold fX5_light fX5_light_c26
          rw [within_true hp, bind_eq, ifn10, g_inb (by omega) (by omega), g_inb (by omega) (by omega), n_cl (by omega), tL_2, tM_2, within_false hv, bind_eq, ifp00, c_tell0, bind2_eq]
        · show (fX6_in x2 (1 : Int32) (3 : Int32)).bind _ = _
          rw [in_false hv, bind_eq, ifp00]
          rfl
    · by_cases hv : (0 : Int32) ≤ x2 ∧ x2 ≤ 2
      · obtain ⟨v, hv1, hv2, rfl⟩ := rng (a := 0) (b := 2) (by decide) (by decide) hv
        refine ⟨nI (R 4), encL (wr R 4 v) u d, F, mG G (wr R 4 v), ?_, ?_, h.set0 (Inv.set hI (show _ ≤ 2 by omega) (by omega))⟩
        · have em : fX1_measure (nI 3) (encL R u d) = some (nI (R 4)) := by
            show some (encL R u d 0 4) = _
            rw [encL_0 (by decide)]
          have ep : fX1_putMeasure (nI 3) (nI v) (encL R u d) = some (encL (wr R 4 v) u d) := by
            show some (st2 (encL R u d) 0 (upd (encL R u d 0) 4 (nI v))) = _
            rw [encL_s0 (by decide)]
          unfold fX5_light
          rw [within_true hp, bind_eq, ifn10, g_inb (by omega) (by omega), g_inb (by omega) (by omega), n_cl (by omega), tL_3, tM_3, within_true hv, bind_eq, ifn10, em, bind_eq, ep, bind_eq]
        · have q : fX6_light (nI 3) (nI v) (mG G R) J = some (nI (R 4), mG G (wr R 4 v)) := by
            have eb : fX6_becomes (4 : Int32) (nI v) (mG G R) J = some (nI (R 4), mG G (wr R 4 v)) := m_becomes (j := 4) (by omega)
            show (fX6_in (nI v) (0 : Int32) (2 : Int32)).bind _ = _
            rw [in_true hv, bind_eq, ifn10, eb, bind2_eq]
            rfl
          rw [mG_self hG] at q; exact q
      · refine ⟨(-1000000001 : Int32), _, _, _, ?_, ?_, h.find 0⟩
        · unfold fX5_light fX5_light_c26
          rw [within_true hp, bind_eq, ifn10, g_inb (by omega) (by omega), g_inb (by omega) (by omega), n_cl (by omega), tL_3, tM_3, within_false hv, bind_eq, ifp00, c_tell0, bind2_eq]
        · show (fX6_in x2 (0 : Int32) (2 : Int32)).bind _ = _
          rw [in_false hv, bind_eq, ifp00]
          rfl
  · have w0 : ¬ x1 = 0 := fun e => hp (by rw [e]; decide)
    have w1 : ¬ x1 = 1 := fun e => hp (by rw [e]; decide)
    have w2 : ¬ x1 = 2 := fun e => hp (by rw [e]; decide)
    have w3 : ¬ x1 = 3 := fun e => hp (by rw [e]; decide)
    refine ⟨(-1000000001 : Int32), _, _, _, ?_, ?_, h.find 0⟩
    · simp only [fX5_light, fX5_light_c26, within_false hp, bind_eq, bind2_eq, ifn10, reduceIte, c_tell0]
    · have q : fX6_light x1 x2 (mG G R) J = some ((-1000000001 : Int32), st2 (mG G R) 2 (upd (mG G R 2) 0 (mG G R 2 0 + 1))) := by
        simp only [fX6_light, fX6_light_c129, fX6_light_c135, if_neg w0, if_neg w1, if_neg w2, if_neg w3, bind_eq, bind2_eq, ifn10, reduceIte, m_find0]
      rw [mG_self hG] at q; exact q
theorem e_of (h : Rel R1 R2 R3 K T SN SZ F G J) (x1 x2 : Int32) : ∃ r F' G', fX5_of x1 x2 R1 R2 R3 K T SN SZ F = some (r, F') ∧ fX6_of x1 x2 G J = some (r, G') ∧ Rel R1 R2 R3 K T SN SZ F' G' J := by
  obtain ⟨R, u, d, hI, rfl, hG⟩ := h.real
  have h6 := hI.many
  by_cases hp : isK R x1
  · by_cases hw : (0 : Int32) ≤ x2 ∧ x2 ≤ 5
    · obtain ⟨k, hk, rfl⟩ := isK_nat hp
      obtain ⟨w, -, hw2, rfl⟩ := rng (a := 0) (b := 5) (by decide) (by decide) hw
      rcases (show w = 0 ∨ w = 1 ∨ w = 2 ∨ w = 3 ∨ w = 4 ∨ w = 5 by omega) with rfl | rfl | rfl | rfl | rfl | rfl
      · refine ⟨nI (R (35 + 5 * k)), F, G, ?_, ?_, h⟩
        · unfold fX5_of
          rw [c_has hI hp, bind_eq, ifn10, if_pos (show nI 0 = (0 : Int32) from rfl), g_inb (by omega) (by omega), n_cl (by omega), encL_2 (by omega)]
        · have q : fX6_of (nI k) (nI 0) (mG G R) J = some (nI (R (35 + 5 * k)), mG G R) := by
            unfold fX6_of fX6_of_c43
            rw [m_one hI hp, bind_eq, ifn10, in_true hw, bind_eq, ifn10, if_neg (show ¬ nI 0 = (5 : Int32) by decide), m_its0 (by omega), bind_eq]
          rw [mG_self hG] at q; exact q
      · refine ⟨nI (R (36 + 5 * k)), F, G, ?_, ?_, h⟩
        · unfold fX5_of
          rw [c_has hI hp, bind_eq, ifn10, if_neg (show ¬ nI 1 = (0 : Int32) by decide), if_pos (show nI 1 = (1 : Int32) from rfl), g_inb (by omega) (by omega), n_cl (by omega), encL_3 (by omega)]
        · have q : fX6_of (nI k) (nI 1) (mG G R) J = some (nI (R (36 + 5 * k)), mG G R) := by
            unfold fX6_of fX6_of_c43
            rw [m_one hI hp, bind_eq, ifn10, in_true hw, bind_eq, ifn10, if_neg (show ¬ nI 1 = (5 : Int32) by decide), m_its1 (by omega), bind_eq]
          rw [mG_self hG] at q; exact q
      · refine ⟨nI (R (37 + 5 * k)), F, G, ?_, ?_, h⟩
        · unfold fX5_of
          rw [c_has hI hp, bind_eq, ifn10, if_neg (show ¬ nI 2 = (0 : Int32) by decide), if_neg (show ¬ nI 2 = (1 : Int32) by decide), if_pos (show nI 2 = (2 : Int32) from rfl), g_inb (by omega) (by omega), n_cl (by omega), encL_4 (by omega)]
        · have q : fX6_of (nI k) (nI 2) (mG G R) J = some (nI (R (37 + 5 * k)), mG G R) := by
            unfold fX6_of fX6_of_c43
            rw [m_one hI hp, bind_eq, ifn10, in_true hw, bind_eq, ifn10, if_neg (show ¬ nI 2 = (5 : Int32) by decide), m_its2 (by omega), bind_eq]
          rw [mG_self hG] at q; exact q
      · refine ⟨nI (R (38 + 5 * k)), F, G, ?_, ?_, h⟩
        · unfold fX5_of
          rw [c_has hI hp, bind_eq, ifn10, if_neg (show ¬ nI 3 = (0 : Int32) by decide), if_neg (show ¬ nI 3 = (1 : Int32) by decide), if_neg (show ¬ nI 3 = (2 : Int32) by decide), if_pos (show nI 3 = (3 : Int32) from rfl), g_inb (by omega) (by omega), n_cl (by omega), encL_5 (by omega)]
        · have q : fX6_of (nI k) (nI 3) (mG G R) J = some (nI (R (38 + 5 * k)), mG G R) := by
            unfold fX6_of fX6_of_c43
            rw [m_one hI hp, bind_eq, ifn10, in_true hw, bind_eq, ifn10, if_neg (show ¬ nI 3 = (5 : Int32) by decide), m_its3 (by omega), bind_eq]
          rw [mG_self hG] at q; exact q
      · refine ⟨nI (R (39 + 5 * k)), F, G, ?_, ?_, h⟩
        · unfold fX5_of
          rw [c_has hI hp, bind_eq, ifn10, if_neg (show ¬ nI 4 = (0 : Int32) by decide), if_neg (show ¬ nI 4 = (1 : Int32) by decide), if_neg (show ¬ nI 4 = (2 : Int32) by decide), if_neg (show ¬ nI 4 = (3 : Int32) by decide), if_pos (show nI 4 = (4 : Int32) from rfl), g_inb (by omega) (by omega), n_cl (by omega), encL_6 (by omega)]
        · have q : fX6_of (nI k) (nI 4) (mG G R) J = some (nI (R (39 + 5 * k)), mG G R) := by
            unfold fX6_of fX6_of_c43
            rw [m_one hI hp, bind_eq, ifn10, in_true hw, bind_eq, ifn10, if_neg (show ¬ nI 4 = (5 : Int32) by decide), m_its4 (by omega), bind_eq]
          rw [mG_self hG] at q; exact q
      · refine ⟨nI (usS R k), F, G, ?_, ?_, h⟩
        · unfold fX5_of
          rw [c_has hI hp, bind_eq, ifn10, if_neg (show ¬ nI 5 = (0 : Int32) by decide), if_neg (show ¬ nI 5 = (1 : Int32) by decide), if_neg (show ¬ nI 5 = (2 : Int32) by decide), if_neg (show ¬ nI 5 = (3 : Int32) by decide), if_neg (show ¬ nI 5 = (4 : Int32) by decide), if_pos (show nI 5 = (5 : Int32) from rfl), c_uses hI (by omega), bind_eq]
        · have q : fX6_of (nI k) (nI 5) (mG G R) J = some (nI (usS R k), mG G R) := by
            unfold fX6_of fX6_of_c43
            rw [m_one hI hp, bind_eq, ifn10, in_true hw, bind_eq, ifn10, if_pos (show nI 5 = (5 : Int32) from rfl), m_uses hI (by omega), bind_eq]
          rw [mG_self hG] at q; exact q
    · have w0 : ¬ x2 = 0 := fun e => hw (by rw [e]; decide)
      have w1 : ¬ x2 = 1 := fun e => hw (by rw [e]; decide)
      have w2 : ¬ x2 = 2 := fun e => hw (by rw [e]; decide)
      have w3 : ¬ x2 = 3 := fun e => hw (by rw [e]; decide)
      have w4 : ¬ x2 = 4 := fun e => hw (by rw [e]; decide)
      have w5 : ¬ x2 = 5 := fun e => hw (by rw [e]; decide)
      refine ⟨(-1000000001 : Int32), _, _, ?_, ?_, h.find 0⟩
      · simp only [fX5_of, c_has hI hp, if_neg w0, if_neg w1, if_neg w2, if_neg w3, if_neg w4, if_neg w5, bind_eq, bind2_eq, ifn10, reduceIte, c_tell0]
      · have q : fX6_of x1 x2 (mG G R) J = some ((-1000000001 : Int32), st2 (mG G R) 2 (upd (mG G R 2) 0 (mG G R 2 0 + 1))) := by
          simp only [fX6_of, fX6_of_c17, m_one hI hp, in_false hw, bind_eq, bind2_eq, ifn10, reduceIte, m_find0]
        rw [mG_self hG] at q; exact q
  · refine ⟨(-1000000001 : Int32), _, _, ?_, ?_, h.find 0⟩
    · simp only [fX5_of, c_hasN hI hp, bind_eq, bind2_eq, ifn10, reduceIte, c_tell0]
    · have q : fX6_of x1 x2 (mG G R) J = some ((-1000000001 : Int32), st2 (mG G R) 2 (upd (mG G R 2) 0 (mG G R 2 0 + 1))) := by
        simp only [fX6_of, fX6_of_c17, m_oneN hI hp, bind_eq, bind2_eq, ifn10, reduceIte, m_find0]
      rw [mG_self hG] at q; exact q
theorem e_can (h : Rel R1 R2 R3 K T SN SZ F G J) (x1 x2 x3 : Int32) : ∃ r F' G', fX5_can x1 x2 x3 R1 R2 R3 K T SN SZ F = some (r, F') ∧ fX6_can x1 x2 x3 G J = some (r, G') ∧ Rel R1 R2 R3 K T SN SZ F' G' J := by
  obtain ⟨R, u, d, hI, rfl, hG⟩ := h.real
  have h6 := hI.many
  by_cases hp : isK R x1
  · by_cases hs : (1 : Int32) ≤ x3 ∧ x3 ≤ 13
    · obtain ⟨s, hs1, hs2, rfl⟩ := rng (a := 1) (b := 13) (by decide) (by decide) hs
      by_cases hw : (0 : Int32) ≤ x2 ∧ x2 ≤ 1
      · obtain ⟨k, hk, rfl⟩ := isK_nat hp
        have hkd := hI.kind (k := k) (by omega)
        obtain ⟨w, -, hw2, rfl⟩ := rng (a := 0) (b := 1) (by decide) (by decide) hw
        rcases (show w = 0 ∨ w = 1 by omega) with rfl | rfl
        · refine ⟨nI (brS (R (35 + 5 * k)) s), F, G, ?_, ?_, h⟩
          · unfold fX5_can
            rw [c_has hI hp, bind_eq, ifn10, within_true hs, bind_eq, ifn10, if_pos (show nI 0 = (0 : Int32) from rfl), g_inb (by omega) (by omega), n_cl (by omega), encL_2 (by omega), c_brings hkd (by omega), bind_eq]
          · have q : fX6_can (nI k) (nI 0) (nI s) (mG G R) J = some (nI (brS (R (35 + 5 * k)) s), mG G R) := by
              unfold fX6_can fX6_can_c53
              rw [m_one hI hp, bind_eq, ifn10, in_true hw, bind_eq, ifn10, in_true hs, bind_eq, ifn10, if_pos (show nI 0 = (0 : Int32) from rfl), m_brings hI (by omega) (by omega), bind_eq]
            rw [mG_self hG] at q; exact q
        · refine ⟨nI (teS (R (35 + 5 * k)) s), F, G, ?_, ?_, h⟩
          · unfold fX5_can
            rw [c_has hI hp, bind_eq, ifn10, within_true hs, bind_eq, ifn10, if_neg (show ¬ nI 1 = (0 : Int32) by decide), if_pos (show nI 1 = (1 : Int32) from rfl), g_inb (by omega) (by omega), n_cl (by omega), encL_2 (by omega), c_tells hkd (by omega) (by omega), bind_eq]
          · have q : fX6_can (nI k) (nI 1) (nI s) (mG G R) J = some (nI (teS (R (35 + 5 * k)) s), mG G R) := by
              unfold fX6_can fX6_can_c53
              rw [m_one hI hp, bind_eq, ifn10, in_true hw, bind_eq, ifn10, in_true hs, bind_eq, ifn10, if_neg (show ¬ nI 1 = (0 : Int32) by decide), m_tells hI (by omega) (by omega) (by omega), bind_eq]
            rw [mG_self hG] at q; exact q
      · have w0 : ¬ x2 = 0 := fun e => hw (by rw [e]; decide)
        have w1 : ¬ x2 = 1 := fun e => hw (by rw [e]; decide)
        refine ⟨(-1000000001 : Int32), _, _, ?_, ?_, h.find 0⟩
        · simp only [fX5_can, c_has hI hp, within_true hs, if_neg w0, if_neg w1, bind_eq, bind2_eq, ifn10, reduceIte, c_tell0]
        · have q : fX6_can x1 x2 (nI s) (mG G R) J = some ((-1000000001 : Int32), st2 (mG G R) 2 (upd (mG G R 2) 0 (mG G R 2 0 + 1))) := by
            simp only [fX6_can, fX6_can_c27, m_one hI hp, in_false hw, bind_eq, bind2_eq, ifn10, reduceIte, m_find0]
          rw [mG_self hG] at q; exact q
    · by_cases hw : (0 : Int32) ≤ x2 ∧ x2 ≤ 1
      · refine ⟨(-1000000001 : Int32), _, _, ?_, ?_, h.find 0⟩
        · simp only [fX5_can, fX5_can_c21, c_has hI hp, within_false hs, bind_eq, bind2_eq, ifn10, reduceIte, c_tell0]
        · have q : fX6_can x1 x2 x3 (mG G R) J = some ((-1000000001 : Int32), st2 (mG G R) 2 (upd (mG G R 2) 0 (mG G R 2 0 + 1))) := by
            simp only [fX6_can, fX6_can_c27, m_one hI hp, in_true hw, in_false hs, bind_eq, bind2_eq, ifn10, reduceIte, m_find0]
          rw [mG_self hG] at q; exact q
      · refine ⟨(-1000000001 : Int32), _, _, ?_, ?_, h.find 0⟩
        · simp only [fX5_can, fX5_can_c21, c_has hI hp, within_false hs, bind_eq, bind2_eq, ifn10, reduceIte, c_tell0]
        · have q : fX6_can x1 x2 x3 (mG G R) J = some ((-1000000001 : Int32), st2 (mG G R) 2 (upd (mG G R 2) 0 (mG G R 2 0 + 1))) := by
            simp only [fX6_can, fX6_can_c27, m_one hI hp, in_false hw, bind_eq, bind2_eq, ifn10, reduceIte, m_find0]
          rw [mG_self hG] at q; exact q
  · refine ⟨(-1000000001 : Int32), _, _, ?_, ?_, h.find 0⟩
    · simp only [fX5_can, fX5_can_c21, c_hasN hI hp, bind_eq, bind2_eq, ifn10, reduceIte, c_tell0]
    · have q : fX6_can x1 x2 x3 (mG G R) J = some ((-1000000001 : Int32), st2 (mG G R) 2 (upd (mG G R 2) 0 (mG G R 2 0 + 1))) := by
        simp only [fX6_can, fX6_can_c27, m_oneN hI hp, bind_eq, bind2_eq, ifn10, reduceIte, m_find0]
      rw [mG_self hG] at q; exact q
theorem e_now (h : Rel R1 R2 R3 K T SN SZ F G J) (x1 : Int32) : ∃ r F' G', fX5_now x1 R1 R2 R3 K T SN SZ F = some (r, F') ∧ fX6_now x1 G J = some (r, G') ∧ Rel R1 R2 R3 K T SN SZ F' G' J := by
  obtain ⟨R, u, d, hI, rfl, hG⟩ := h.real
  have h6 := hI.many
  by_cases hw : (0 : Int32) ≤ x1 ∧ x1 ≤ 7
  · obtain ⟨w, -, hw2, rfl⟩ := rng (a := 0) (b := 7) (by decide) (by decide) hw
    rcases (show w = 0 ∨ w = 1 ∨ w = 2 ∨ w = 3 ∨ w = 4 ∨ w = 5 ∨ w = 6 ∨ w = 7 by omega) with rfl | rfl | rfl | rfl | rfl | rfl | rfl | rfl
    · refine ⟨nI (R 0), F, G, ?_, ?_, h⟩
      · unfold fX5_now
        rw [if_pos (show nI 0 = (0 : Int32) from rfl), encL_0 (by decide)]
      · have q : fX6_now (nI 0) (mG G R) J = some (nI (R 0), mG G R) := by
          unfold fX6_now fX6_now_c49
          rw [in_true hw, bind_eq, ifn10, if_neg (show ¬ (6 : Int32) ≤ nI 0 by decide), g_inb (by omega) (by omega), n_cl (by omega), mG_r (by omega)]
        rw [mG_self hG] at q; exact q
    · refine ⟨nI (R 1), F, G, ?_, ?_, h⟩
      · unfold fX5_now
        rw [if_neg (show ¬ nI 1 = (0 : Int32) by decide), if_pos (show nI 1 = (1 : Int32) from rfl), encL_0 (by decide)]
      · have q : fX6_now (nI 1) (mG G R) J = some (nI (R 1), mG G R) := by
          unfold fX6_now fX6_now_c49
          rw [in_true hw, bind_eq, ifn10, if_neg (show ¬ (6 : Int32) ≤ nI 1 by decide), g_inb (by omega) (by omega), n_cl (by omega), mG_r (by omega)]
        rw [mG_self hG] at q; exact q
    · refine ⟨nI (R 2), F, G, ?_, ?_, h⟩
      · unfold fX5_now
        rw [if_neg (show ¬ nI 2 = (0 : Int32) by decide), if_neg (show ¬ nI 2 = (1 : Int32) by decide), if_pos (show nI 2 = (2 : Int32) from rfl), encL_0 (by decide)]
      · have q : fX6_now (nI 2) (mG G R) J = some (nI (R 2), mG G R) := by
          unfold fX6_now fX6_now_c49
          rw [in_true hw, bind_eq, ifn10, if_neg (show ¬ (6 : Int32) ≤ nI 2 by decide), g_inb (by omega) (by omega), n_cl (by omega), mG_r (by omega)]
        rw [mG_self hG] at q; exact q
    · refine ⟨nI (R 3), F, G, ?_, ?_, h⟩
      · unfold fX5_now
        rw [if_neg (show ¬ nI 3 = (0 : Int32) by decide), if_neg (show ¬ nI 3 = (1 : Int32) by decide), if_neg (show ¬ nI 3 = (2 : Int32) by decide), if_pos (show nI 3 = (3 : Int32) from rfl), encL_0 (by decide)]
      · have q : fX6_now (nI 3) (mG G R) J = some (nI (R 3), mG G R) := by
          unfold fX6_now fX6_now_c49
          rw [in_true hw, bind_eq, ifn10, if_neg (show ¬ (6 : Int32) ≤ nI 3 by decide), g_inb (by omega) (by omega), n_cl (by omega), mG_r (by omega)]
        rw [mG_self hG] at q; exact q
    · refine ⟨nI (R 4), F, G, ?_, ?_, h⟩
      · unfold fX5_now
        rw [if_neg (show ¬ nI 4 = (0 : Int32) by decide), if_neg (show ¬ nI 4 = (1 : Int32) by decide), if_neg (show ¬ nI 4 = (2 : Int32) by decide), if_neg (show ¬ nI 4 = (3 : Int32) by decide), if_pos (show nI 4 = (4 : Int32) from rfl), encL_0 (by decide)]
      · have q : fX6_now (nI 4) (mG G R) J = some (nI (R 4), mG G R) := by
          unfold fX6_now fX6_now_c49
          rw [in_true hw, bind_eq, ifn10, if_neg (show ¬ (6 : Int32) ≤ nI 4 by decide), g_inb (by omega) (by omega), n_cl (by omega), mG_r (by omega)]
        rw [mG_self hG] at q; exact q
    · refine ⟨nI (R 5), F, G, ?_, ?_, h⟩
      · unfold fX5_now
        rw [if_neg (show ¬ nI 5 = (0 : Int32) by decide), if_neg (show ¬ nI 5 = (1 : Int32) by decide), if_neg (show ¬ nI 5 = (2 : Int32) by decide), if_neg (show ¬ nI 5 = (3 : Int32) by decide), if_neg (show ¬ nI 5 = (4 : Int32) by decide), if_pos (show nI 5 = (5 : Int32) from rfl), encL_0 (by decide)]
      · have q : fX6_now (nI 5) (mG G R) J = some (nI (R 5), mG G R) := by
          unfold fX6_now fX6_now_c49
          rw [in_true hw, bind_eq, ifn10, if_neg (show ¬ (6 : Int32) ≤ nI 5 by decide), g_inb (by omega) (by omega), n_cl (by omega), mG_r (by omega)]
        rw [mG_self hG] at q; exact q
    · refine ⟨nI (onS R), F, G, ?_, ?_, h⟩
      · unfold fX5_now
        rw [if_neg (show ¬ nI 6 = (0 : Int32) by decide), if_neg (show ¬ nI 6 = (1 : Int32) by decide), if_neg (show ¬ nI 6 = (2 : Int32) by decide), if_neg (show ¬ nI 6 = (3 : Int32) by decide), if_neg (show ¬ nI 6 = (4 : Int32) by decide), if_neg (show ¬ nI 6 = (5 : Int32) by decide), if_pos (show nI 6 = (6 : Int32) from rfl), c_on hI, bind_eq]
      · have q : fX6_now (nI 6) (mG G R) J = some (nI (onS R), mG G R) := by
          unfold fX6_now fX6_now_c49
          rw [in_true hw, bind_eq, ifn10, if_pos (show (6 : Int32) ≤ nI 6 by decide), if_pos (show nI 6 = (6 : Int32) from rfl), m_on hI, bind_eq]
        rw [mG_self hG] at q; exact q
    · refine ⟨nI (usAll R), F, G, ?_, ?_, h⟩
      · unfold fX5_now
        rw [if_neg (show ¬ nI 7 = (0 : Int32) by decide), if_neg (show ¬ nI 7 = (1 : Int32) by decide), if_neg (show ¬ nI 7 = (2 : Int32) by decide), if_neg (show ¬ nI 7 = (3 : Int32) by decide), if_neg (show ¬ nI 7 = (4 : Int32) by decide), if_neg (show ¬ nI 7 = (5 : Int32) by decide), if_neg (show ¬ nI 7 = (6 : Int32) by decide), if_pos (show nI 7 = (7 : Int32) from rfl), c_usAll hI, bind_eq]
      · have q : fX6_now (nI 7) (mG G R) J = some (nI (usAll R), mG G R) := by
          unfold fX6_now fX6_now_c49
          rw [in_true hw, bind_eq, ifn10, if_pos (show (6 : Int32) ≤ nI 7 by decide), if_neg (show ¬ nI 7 = (6 : Int32) by decide), m_usAll hI, bind_eq]
        rw [mG_self hG] at q; exact q
  · have w0 : ¬ x1 = 0 := fun e => hw (by rw [e]; decide)
    have w1 : ¬ x1 = 1 := fun e => hw (by rw [e]; decide)
    have w2 : ¬ x1 = 2 := fun e => hw (by rw [e]; decide)
    have w3 : ¬ x1 = 3 := fun e => hw (by rw [e]; decide)
    have w4 : ¬ x1 = 4 := fun e => hw (by rw [e]; decide)
    have w5 : ¬ x1 = 5 := fun e => hw (by rw [e]; decide)
    have w6 : ¬ x1 = 6 := fun e => hw (by rw [e]; decide)
    have w7 : ¬ x1 = 7 := fun e => hw (by rw [e]; decide)
    refine ⟨(-1000000001 : Int32), _, _, ?_, ?_, h.find 0⟩
    · simp only [fX5_now, if_neg w0, if_neg w1, if_neg w2, if_neg w3, if_neg w4, if_neg w5, if_neg w6, if_neg w7, bind_eq, bind2_eq, ifn10, reduceIte, c_tell0]
    · have q : fX6_now x1 (mG G R) J = some ((-1000000001 : Int32), st2 (mG G R) 2 (upd (mG G R 2) 0 (mG G R 2 0 + 1))) := by
        simp only [fX6_now, in_false hw, bind_eq, bind2_eq, ifn10, reduceIte, m_find0]
      rw [mG_self hG] at q; exact q
end C2
