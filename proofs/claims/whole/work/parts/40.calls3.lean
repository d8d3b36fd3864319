section C3
variable {R1 R2 R3 : M2} {K : Int32} {T : M2} {SN : J2} {SZ : M2} {F : M1} {G : M2} {J : J2}
/-- one more keeper -/
def addS (R : Rw) (a o w : Nat) : Rw := wr (wr (wr (wr (wr (wr R (35 + 5 * R 6) a) (36 + 5 * R 6) o) (37 + 5 * R 6) (R 0)) (38 + 5 * R 6) w) (39 + 5 * R 6) 0) 6 (R 6 + 1)
theorem add_inv {D : Nat} {R : Rw} (hI : Inv D R) {a o w : Nat} (h6 : R 6 < 8) (ha : a ≤ 5) (ho : o ≤ 1) (hw : w ≤ 511) : Inv D (addS R a o w) := by
  have h0 := hI.day
  unfold addS
  refine Inv.set (Inv.set (Inv.set (Inv.set (Inv.set (Inv.set hI ?_ (by omega)) ?_ (by omega)) ?_ (by omega)) ?_ (by omega)) ?_ (by omega)) (show _ ≤ 8 by omega) (by omega)
  · rw [bnd_kind]; exact ha
  · rw [bnd_on]; exact ho
  · rw [bnd_since]; omega
  · rw [bnd_words]; exact hw
  · rw [bnd_met]; omega
theorem c_add {D : Nat} {R : Rw} {u d : Int32} (hI : Inv D R) {a : Nat} (h6 : R 6 < 8) : fX1_addKeeper (nI a) (encL R u d) = some (nI (R 6), encL (addS R a 0 0) u d) := by
  unfold fX1_addKeeper
  rw [c_full hI, if_pos h6, bind_eq, ifp00, encL_0 (by decide)]
  rw [letb_eq, g_inb (by omega) (by omega), n_cl (by omega), encL_s2 (by omega)]
  rw [letb_eq, g_inb (by omega) (by omega), show (0 : Int32) = nI 0 from rfl, encL_s3 (by omega)]
  rw [letb_eq, g_inb (by omega) (by omega), encL_0 (by decide), encL_s4 (by omega)]
  rw [letb_eq, g_inb (by omega) (by omega), encL_s5 (by omega)]
  rw [letb_eq, g_inb (by omega) (by omega), encL_s6 (by omega), letb_eq, encL_0 (by decide)]
  rw [show ∀ x, nI x + (1 : Int32) = nI (x + 1) from fun x => n_add x 1, encL_s0 (by decide), letb_eq]
  unfold addS
  simp (disch := omega) only [wr_ne]
theorem m_adds {D : Nat} {R : Rw} (hI : Inv D R) {a o w : Nat} (h6 : R 6 < 8) : fX6_adds (nI a) (nI o) (nI w) (mG G R) J = some (mG G (addS R a o w)) := by
  unfold fX6_adds
  rw [g_6, t_6, mG_r (by decide), letb_eq]
  rw [show (0 : Int32) = nI 0 from rfl, m_puts0 h6, bind_eq, show (1 : Int32) = nI 1 from rfl, m_puts1 h6, bind_eq, g_inb (by omega) (by omega), n_cl (by omega), mG_r (by decide)]
  rw [show (2 : Int32) = nI 2 from rfl, m_puts2 h6, bind_eq, show (3 : Int32) = nI 3 from rfl, m_puts3 h6, bind_eq, show (4 : Int32) = nI 4 from rfl, m_puts4 h6, bind_eq]
  rw [show (6 : Int32) = nI 6 from rfl, g_inb (by omega) (by omega), g_inb (by omega) (by omega), mG_r (by decide), n_add, mG_s (by decide), letb_eq]
  unfold addS
  simp (disch := omega) only [wr_ne]
theorem e_keeper (h : Rel R1 R2 R3 K T SN SZ F G J) (x1 : Int32) : ∃ r R1' F' G', fX5_keeper x1 R1 R2 R3 K T SN SZ F = some (r, R1', F') ∧ fX6_keeper x1 G J = some (r, G') ∧ Rel R1' R2 R3 K T SN SZ F' G' J := by
  obtain ⟨R, u, d, hI, rfl, hG⟩ := h.real
  have h6 := hI.many
  by_cases hp : (0 : Int32) ≤ x1 ∧ x1 ≤ 5
  · by_cases h8 : R 6 < 8
    · obtain ⟨a, -, ha, rfl⟩ := rng (a := 0) (b := 5) (by decide) (by decide) hp
      refine ⟨nI (R 6), encL (addS R a 0 0) u d, F, mG G (addS R a 0 0), ?_, ?_, h.set0 (add_inv hI h8 ha (by omega) (by omega))⟩
      · unfold fX5_keeper
        rw [c_kindT hp, bind_eq, ifn10, c_full hI, if_pos h8, bind_eq, ifp00, c_add hI h8, bind2_eq]
      · have q : fX6_keeper (nI a) (mG G R) J = some (nI (R 6), mG G (addS R a 0 0)) := by
          unfold fX6_keeper
          rw [m_kindT hp, bind_eq, ifn10, g_6, t_6, mG_r (by decide), if_neg (show ¬ nI (R 6) = (8 : Int32) from i_ne (b := 8) (by omega) (by decide) (by omega))]
          rw [show (0 : Int32) = nI 0 from rfl, m_adds hI h8, bind_eq, g_6, mG_r (by decide)]
          have e : addS R a 0 0 6 = R 6 + 1 := wr_eq _ _ _
          rw [e, show (1 : Int32) = nI 1 from rfl, n_sub (by omega), Nat.add_sub_cancel]
        rw [mG_self hG] at q; exact q
    · have e8 : R 6 = 8 := by omega
      refine ⟨(-1000000002 : Int32), _, _, _, ?_, ?_, h.find 1⟩
      · simp only [fX5_keeper, c_kindT hp, c_full hI, if_neg h8, bind_eq, bind2_eq, ifn10, reduceIte, c_tell1]
      · have q : fX6_keeper x1 (mG G R) J = some ((-1000000002 : Int32), st2 (mG G R) 2 (upd (mG G R 2) 1 (mG G R 2 1 + 1))) := by
          simp only [fX6_keeper, m_kindT hp, g_6, t_6, mG_r (show 6 < 75 by decide), e8, show nI 8 = (8 : Int32) from rfl, bind_eq, bind2_eq, ifn10, reduceIte, m_find1]
        rw [mG_self hG] at q; exact q
  · refine ⟨(-1000000001 : Int32), _, _, _, ?_, ?_, h.find 0⟩
    · simp only [fX5_keeper, c_kindF hp, bind_eq, bind2_eq, ifn10, reduceIte, c_tell0]
    · have q : fX6_keeper x1 (mG G R) J = some ((-1000000001 : Int32), st2 (mG G R) 2 (upd (mG G R 2) 0 (mG G R 2 0 + 1))) := by
        simp only [fX6_keeper, m_kindF hp, bind_eq, bind2_eq, ifn10, reduceIte, m_find0]
      rw [mG_self hG] at q; exact q
theorem e_set (h : Rel R1 R2 R3 K T SN SZ F G J) (x1 x2 x3 : Int32) : ∃ r R1' F' G', fX5_set x1 x2 x3 R1 R2 R3 K T SN SZ F = some (r, R1', F') ∧ fX6_set x1 x2 x3 G J = some (r, G') ∧ Rel R1' R2 R3 K T SN SZ F' G' J := by
  obtain ⟨R, u, d, hI, rfl, hG⟩ := h.real
  have h6 := hI.many
  by_cases hp : isK R x1
  · obtain ⟨k, hk, rfl⟩ := isK_nat hp
    have hk8 : k < 8 := by omega
    by_cases hw1 : x2 = 1
    · subst hw1
      by_cases hv : (0 : Int32) ≤ x3 ∧ x3 ≤ 1
      · obtain ⟨v, -, hv2, rfl⟩ := rng (a := 0) (b := 1) (by decide) (by decide) hv
        refine ⟨nI (R (36 + 5 * k)), encL (wr (wr R (36 + 5 * k) v) (37 + 5 * k) (R 0)) u d, F, mG G (wr (wr R (36 + 5 * k) v) (37 + 5 * k) (R 0)), ?_, ?_, h.set0 (Inv.set (Inv.set hI (by rw [bnd_on]; exact hv2) (by omega)) (by rw [bnd_since]; have := hI.day; omega) (by omega))⟩
        · unfold fX5_set fX5_set_c75 fX1_putStand
          rw [c_has hI hp, bind_eq, ifn10, if_pos rfl, within_true hv, bind_eq, ifn10]
          rw [g_inb (by omega) (by omega), n_cl (by omega), encL_3 hk8, letb_eq, g_inb (by omega) (by omega), encL_s3 hk8, letb_eq, g_inb (by omega) (by omega), encL_0 (by decide), wr_ne _ _ (by omega), encL_s4 hk8, letb_eq, bind2_eq]
        · have q : fX6_set (nI k) 1 (nI v) (mG G R) J = some (nI (R (36 + 5 * k)), mG G (wr (wr R (36 + 5 * k) v) (37 + 5 * k) (R 0))) := by
            unfold fX6_set fX6_set_c68 fX6_turnsOn
            rw [m_one hI hp, bind_eq, ifn10, if_pos rfl, in_true hv, bind_eq, ifn10]
            rw [show (1 : Int32) = nI 1 from rfl, m_its1 hk8, bind_eq, m_puts1 hk8, bind_eq, show (0 : Int32) = nI 0 from rfl, g_inb (by omega) (by omega), n_cl (by omega), mG_r (by decide), wr_ne _ _ (by omega), show (2 : Int32) = nI 2 from rfl, m_puts2 hk8, bind_eq, bind2_eq]
          rw [mG_self hG] at q; exact q
      · refine ⟨(-1000000001 : Int32), _, _, _, ?_, ?_, h.find 0⟩
        · simp only [fX5_set, fX5_set_c75, c_has hI hp, within_false hv, bind_eq, bind2_eq, ifn10, reduceIte, c_tell0]
        · have q : fX6_set (nI k) 1 x3 (mG G R) J = some ((-1000000001 : Int32), st2 (mG G R) 2 (upd (mG G R 2) 0 (mG G R 2 0 + 1))) := by
            simp only [fX6_set, fX6_set_c68, m_one hI hp, in_false hv, bind_eq, bind2_eq, ifn10, reduceIte, m_find0]
          rw [mG_self hG] at q; exact q
    · by_cases hw3 : x2 = 3
      · subst hw3
        by_cases hv : (0 : Int32) ≤ x3 ∧ x3 ≤ 511
        · obtain ⟨v, -, hv2, rfl⟩ := rng (a := 0) (b := 511) (by decide) (by decide) hv
          refine ⟨nI (R (38 + 5 * k)), encL (wr R (38 + 5 * k) v) u d, F, mG G (wr R (38 + 5 * k) v), ?_, ?_, h.set0 (Inv.set hI (by rw [bnd_words]; exact hv2) (by omega))⟩
          · unfold fX5_set fX5_set_c105 fX1_putWords
            rw [c_has hI hp, bind_eq, ifn10, if_neg (by decide), if_neg (by decide), if_pos rfl, within_true hv, bind_eq, ifn10]
            rw [g_inb (by omega) (by omega), n_cl (by omega), encL_5 hk8, letb_eq, g_inb (by omega) (by omega), encL_s5 hk8, letb_eq, bind2_eq]
          · have q : fX6_set (nI k) 3 (nI v) (mG G R) J = some (nI (R (38 + 5 * k)), mG G (wr R (38 + 5 * k) v)) := by
              unfold fX6_set fX6_set_c102
              rw [m_one hI hp, bind_eq, ifn10, if_neg (by decide), if_pos rfl, in_true hv, bind_eq, ifn10]
              rw [show ((35 : Int32) + 5 * nI k) + 3 = nI (38 + 5 * k) by rw [show (5 : Int32) * nI k = nI (5 * k) from n_mul 5 k, show (35 : Int32) + nI (5 * k) = nI (35 + 5 * k) from n_add 35 _, show nI (35 + 5 * k) + 3 = nI (35 + 5 * k + 3) from n_add _ 3, show 35 + 5 * k + 3 = 38 + 5 * k by omega], m_becomes (by omega), bind2_eq]
            rw [mG_self hG] at q; exact q
        · refine ⟨(-1000000001 : Int32), _, _, _, ?_, ?_, h.find 0⟩
          · simp only [fX5_set, fX5_set_c105, c_has hI hp, if_neg hw1, if_neg (show ¬ (3 : Int32) = 2 by decide), within_false hv, bind_eq, bind2_eq, ifn10, reduceIte, c_tell0]
          · have q : fX6_set (nI k) 3 x3 (mG G R) J = some ((-1000000001 : Int32), st2 (mG G R) 2 (upd (mG G R 2) 0 (mG G R 2 0 + 1))) := by
              simp only [fX6_set, fX6_set_c102, m_one hI hp, if_neg hw1, in_false hv, bind_eq, bind2_eq, ifn10, reduceIte, m_find0]
            rw [mG_self hG] at q; exact q
      · by_cases hw4 : x2 = 4
        · subst hw4
          by_cases hv : (0 : Int32) ≤ x3 ∧ x3 ≤ 9999
          · obtain ⟨v, -, hv2, rfl⟩ := rng (a := 0) (b := 9999) (by decide) (by decide) hv
            refine ⟨nI (R (39 + 5 * k)), encL (wr R (39 + 5 * k) v) u d, F, mG G (wr R (39 + 5 * k) v), ?_, ?_, h.set0 (Inv.set hI (by rw [bnd_met]; exact hv2) (by omega))⟩
            · unfold fX5_set fX5_set_c135 fX1_putMet
              rw [c_has hI hp, bind_eq, ifn10, if_neg (by decide), if_neg (by decide), if_neg (by decide), if_pos rfl, within_true hv, bind_eq, ifn10]
              rw [g_inb (by omega) (by omega), n_cl (by omega), encL_6 hk8, letb_eq, g_inb (by omega) (by omega), encL_s6 hk8, letb_eq, bind2_eq]
            · have q : fX6_set (nI k) 4 (nI v) (mG G R) J = some (nI (R (39 + 5 * k)), mG G (wr R (39 + 5 * k) v)) := by
                unfold fX6_set fX6_set_c141
                rw [m_one hI hp, bind_eq, ifn10, if_neg (by decide), if_neg (by decide), if_pos rfl, in_true hv, bind_eq, ifn10]
                rw [show ((35 : Int32) + 5 * nI k) + 4 = nI (39 + 5 * k) by rw [show (5 : Int32) * nI k = nI (5 * k) from n_mul 5 k, show (35 : Int32) + nI (5 * k) = nI (35 + 5 * k) from n_add 35 _, show nI (35 + 5 * k) + 4 = nI (35 + 5 * k + 4) from n_add _ 4, show 35 + 5 * k + 4 = 39 + 5 * k by omega], m_becomes (by omega), bind2_eq]
              rw [mG_self hG] at q; exact q
          · refine ⟨(-1000000001 : Int32), _, _, _, ?_, ?_, h.find 0⟩
            · simp only [fX5_set, fX5_set_c135, c_has hI hp, if_neg hw1, if_neg hw3, if_neg (show ¬ (4 : Int32) = 2 by decide), within_false hv, bind_eq, bind2_eq, ifn10, reduceIte, c_tell0]
            · have q : fX6_set (nI k) 4 x3 (mG G R) J = some ((-1000000001 : Int32), st2 (mG G R) 2 (upd (mG G R 2) 0 (mG G R 2 0 + 1))) := by
                simp only [fX6_set, fX6_set_c135, fX6_set_c141, m_one hI hp, if_neg hw1, if_neg hw3, in_false hv, bind_eq, bind2_eq, ifn10, reduceIte, m_find0]
              rw [mG_self hG] at q; exact q
        · by_cases hw2 : x2 = 2
          · refine ⟨(-1000000001 : Int32), _, _, _, ?_, ?_, h.find 0⟩
            · simp only [fX5_set, fX5_set_c136, c_has hI hp, if_neg hw1, if_pos hw2, bind_eq, bind2_eq, ifn10, reduceIte, c_tell0]
            · have q : fX6_set (nI k) x2 x3 (mG G R) J = some ((-1000000001 : Int32), st2 (mG G R) 2 (upd (mG G R 2) 0 (mG G R 2 0 + 1))) := by
                simp only [fX6_set, fX6_set_c135, fX6_set_c141, m_one hI hp, if_neg hw1, if_neg hw3, if_neg hw4, bind_eq, bind2_eq, ifn10, reduceIte, m_find0]
              rw [mG_self hG] at q; exact q
          · refine ⟨(-1000000001 : Int32), _, _, _, ?_, ?_, h.find 0⟩
            · simp only [fX5_set, fX5_set_c136, c_has hI hp, if_neg hw1, if_neg hw2, if_neg hw3, if_neg hw4, bind_eq, bind2_eq, ifn10, reduceIte, c_tell0]
            · have q : fX6_set (nI k) x2 x3 (mG G R) J = some ((-1000000001 : Int32), st2 (mG G R) 2 (upd (mG G R 2) 0 (mG G R 2 0 + 1))) := by
                simp only [fX6_set, fX6_set_c135, fX6_set_c141, m_one hI hp, if_neg hw1, if_neg hw3, if_neg hw4, bind_eq, bind2_eq, ifn10, reduceIte, m_find0]
              rw [mG_self hG] at q; exact q
  · refine ⟨(-1000000001 : Int32), _, _, _, ?_, ?_, h.find 0⟩
    · simp only [fX5_set, c_hasN hI hp, bind_eq, bind2_eq, ifn10, reduceIte, c_tell0]
    · have q : fX6_set x1 x2 x3 (mG G R) J = some ((-1000000001 : Int32), st2 (mG G R) 2 (upd (mG G R 2) 0 (mG G R 2 0 + 1))) := by
        simp only [fX6_set, m_oneN hI hp, bind_eq, bind2_eq, ifn10, reduceIte, m_find0]
      rw [mG_self hG] at q; exact q
def unS (a t : Nat) : Bool := t == 0 || t == a || (t == 1 && a == 4) || (t == 2 && a == 5)
theorem c_under {a t : Nat} (ha : a ≤ 5) (ht : t ≤ 5) : fX0_isOrIsUnder (nI a) (nI t) = some (if unS a t = true then 1 else 0) := by
  rcases (show a = 0 ∨ a = 1 ∨ a = 2 ∨ a = 3 ∨ a = 4 ∨ a = 5 by omega) with rfl | rfl | rfl | rfl | rfl | rfl <;> rcases (show t = 0 ∨ t = 1 ∨ t = 2 ∨ t = 3 ∨ t = 4 ∨ t = 5 by omega) with rfl | rfl | rfl | rfl | rfl | rfl <;> rfl
theorem m_under {R : Rw} {a t k : Nat} (hk : k < 8) (ea : R (35 + 5 * k) = a) (ha : a ≤ 5) (ht : t ≤ 5) (h1 : fX6_isOne (nI k) (mG G R) J = some 1) : fX6_as (nI k) (nI t) (mG G R) J = if unS a t = true then some (nI (R (38 + 5 * k)), mG G R) else some ((-1000000003 : Int32), st2 (mG G R) 2 (upd (mG G R 2) 2 (mG G R 2 2 + 1))) := by
  have e3 : fX6_its (nI k) (3 : Int32) (mG G R) J = some (nI (R (38 + 5 * k))) := m_its3 hk
  have e0 : fX6_its (nI k) (0 : Int32) (mG G R) J = some (nI a) := by rw [← ea]; exact m_its0 hk
  unfold fX6_as fX6_as_c48 fX6_as_c58 fX6_as_c62 fX6_as_c63 fX6_as_c85
  rw [h1, bind_eq, ifn10, m_kindT (rng_of (a := 0) (b := 5) (by decide) (by decide) (by omega) ht), bind_eq, ifn10, e0, e3, bind_eq, bind_eq, m_find2, bind2_eq]
  simp only [show (nI t = (0 : Int32)) = (t = 0) from n_eq (b := 0) (by omega) (by decide), show (nI t = (1 : Int32)) = (t = 1) from n_eq (b := 1) (by omega) (by decide), show (nI t = (2 : Int32)) = (t = 2) from n_eq (b := 2) (by omega) (by decide), show (nI a = (4 : Int32)) = (a = 4) from n_eq (b := 4) (by omega) (by decide), show (nI a = (5 : Int32)) = (a = 5) from n_eq (b := 5) (by omega) (by decide), show (nI t = nI a) = (t = a) from n_eq (by omega) (by omega)]
  simp only [ifn10, ifp00]
  rcases (show a = 0 ∨ a = 1 ∨ a = 2 ∨ a = 3 ∨ a = 4 ∨ a = 5 by omega) with rfl | rfl | rfl | rfl | rfl | rfl <;> rcases (show t = 0 ∨ t = 1 ∨ t = 2 ∨ t = 3 ∨ t = 4 ∨ t = 5 by omega) with rfl | rfl | rfl | rfl | rfl | rfl <;> simp [unS]
theorem e_as (h : Rel R1 R2 R3 K T SN SZ F G J) (x1 x2 : Int32) : ∃ r F' G', fX5_as x1 x2 R1 R2 R3 K T SN SZ F = some (r, F') ∧ fX6_as x1 x2 G J = some (r, G') ∧ Rel R1 R2 R3 K T SN SZ F' G' J := by
  obtain ⟨R, u, d, hI, rfl, hG⟩ := h.real
  have h6 := hI.many
  by_cases hp : isK R x1
  · by_cases hw : (0 : Int32) ≤ x2 ∧ x2 ≤ 5
    · obtain ⟨k, hk, rfl⟩ := isK_nat hp
      obtain ⟨t, -, ht, rfl⟩ := rng (a := 0) (b := 5) (by decide) (by decide) hw
      have hk8 : k < 8 := by omega
      have hkd := hI.kind hk8
      have q := m_under (G := G) (J := J) hk8 rfl hkd ht (m_one hI hp)
      rw [mG_self hG] at q
      by_cases hu : unS (R (35 + 5 * k)) t = true
      · rw [if_pos hu] at q
        refine ⟨nI (R (38 + 5 * k)), F, G, ?_, q, h⟩
        unfold fX5_as
        rw [c_has hI hp, bind_eq, ifn10, c_kindT hw, bind_eq, ifn10, g_inb (by omega) (by omega), n_cl (by omega), encL_2 hk8, c_under hkd ht, if_pos hu, bind_eq, ifn10, g_inb (by omega) (by omega), encL_5 hk8]
      · rw [if_neg hu] at q
        refine ⟨(-1000000003 : Int32), _, _, ?_, q, h.find 2⟩
        unfold fX5_as
        rw [c_has hI hp, bind_eq, ifn10, c_kindT hw, bind_eq, ifn10, g_inb (by omega) (by omega), n_cl (by omega), encL_2 hk8, c_under hkd ht, if_neg hu, bind_eq, ifp00, c_tell2, bind2_eq]
    · refine ⟨(-1000000001 : Int32), _, _, ?_, ?_, h.find 0⟩
      · simp only [fX5_as, fX5_as_c18, c_has hI hp, c_kindF hw, bind_eq, bind2_eq, ifn10, reduceIte, c_tell0]
      · have q : fX6_as x1 x2 (mG G R) J = some ((-1000000001 : Int32), st2 (mG G R) 2 (upd (mG G R 2) 0 (mG G R 2 0 + 1))) := by
          simp only [fX6_as, fX6_as_c15, m_one hI hp, m_kindF hw, bind_eq, bind2_eq, ifn10, reduceIte, m_find0]
        rw [mG_self hG] at q; exact q
  · refine ⟨(-1000000001 : Int32), _, _, ?_, ?_, h.find 0⟩
    · simp only [fX5_as, fX5_as_c18, c_hasN hI hp, bind_eq, bind2_eq, ifn10, reduceIte, c_tell0]
    · have q : fX6_as x1 x2 (mG G R) J = some ((-1000000001 : Int32), st2 (mG G R) 2 (upd (mG G R 2) 0 (mG G R 2 0 + 1))) := by
        simp only [fX6_as, fX6_as_c15, m_oneN hI hp, bind_eq, bind2_eq, ifn10, reduceIte, m_find0]
      rw [mG_self hG] at q; exact q
end C3
