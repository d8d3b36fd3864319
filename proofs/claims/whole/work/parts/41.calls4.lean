section C4
variable {R1 R2 R3 : M2} {K : Int32} {T : M2} {SN : J2} {SZ : M2} {F : M1} {G : M2} {J : J2}
theorem day_invD {D : Nat} {R : Rw} (hI : Inv D R) (hD : R 0 + 1 ≤ D) : Inv D (dayS R).1 := by
  have hIb := burnS_inv hI (usAll R)
  unfold dayS
  split
  · exact Inv.set hIb (show _ ≤ D by omega) (by omega)
  · exact Inv.set (galeS_inv hIb) (show _ ≤ D by omega) (by omega)
theorem dayS_0 (R : Rw) : (dayS R).1 0 = R 0 + 1 := by
  unfold dayS
  split
  · show wr (burnS R (usAll R)) 0 (R 0 + 1) 0 = R 0 + 1
    rw [wr_eq]
  · show wr (galeS (burnS R (usAll R)) (secS R (R 0))).1 0 (R 0 + 1) 0 = R 0 + 1
    rw [wr_eq]
theorem dn_0 (R : Rw) : ∀ n, dn R n 0 = R 0 + n := by
  intro n
  induction n with
  | zero => rfl
  | succ n ih => rw [dn_s, dayS_0, ih]; omega
theorem dn_invD {D : Nat} {R : Rw} (hI : Inv D R) : ∀ n, R 0 + n ≤ D → Inv D (dn R n) := by
  intro n
  induction n with
  | zero => intro _; exact hI
  | succ n ih =>
    intro hn
    rw [dn_s]
    exact day_invD (ih (by omega)) (by rw [dn_0]; omega)
theorem galeS_5 (R : Rw) (s : Nat) : (galeS R s).1 5 = R 5 := by
  unfold galeS
  split
  · show wr R 4 (R 4 + 1) 5 = R 5
    rw [wr_ne _ _ (by decide)]
  · split
    · show wr R 4 2 5 = R 5
      rw [wr_ne _ _ (by decide)]
    · show relS _ _ _ _ 5 = _
      unfold relS upS dnS metS oilS
      split <;> simp (disch := omega) only [wr_ne]
theorem burnS_5 {R : Rw} (need : Nat) (h : R 5 ≤ 9999) : R 5 ≤ burnS R need 5 := by
  unfold burnS
  split
  · rw [wr_ne _ _ (by decide)]; exact Nat.le_refl _
  · rw [wr_ne _ _ (by decide), wr_eq]; unfold cap; split <;> omega
theorem dayS_5 {R : Rw} (h : R 5 ≤ 9999) : R 5 ≤ (dayS R).1 5 := by
  have hb := burnS_5 (usAll R) h
  unfold dayS
  split
  · show _ ≤ wr (burnS R (usAll R)) 0 (R 0 + 1) 5
    rw [wr_ne _ _ (by decide)]; exact hb
  · show _ ≤ wr (galeS (burnS R (usAll R)) (secS R (R 0))).1 0 (R 0 + 1) 5
    rw [wr_ne _ _ (by decide), galeS_5]; exact hb
/-- the model with its tried row kept -/
def tr (G : M2) (R : Rw) : M2 := st2 G 3 (encG R)
theorem tr_3 (R : Rw) : tr G R 3 = encG R := st2_eq _ _ _
theorem c_start {R Rt : Rw} {u d ut dt : Int32} : fX5_startTrial (encL R u d) (encL Rt ut dt) R3 K T SN SZ F = some (encL R ut dt) := by
  unfold fX5_startTrial
  rw [c_like, bind_eq]
theorem m_try (h : Rel R1 R2 R3 K T SN SZ F G J) {R : Rw} : fX6_moveAll_p3 (1 : Int32) (mG G R) J = some (mG (tr G R) R) := by
  obtain ⟨T3, T4, T8, T9, e3, e4, e8, e9⟩ := h.rows
  rw [mv3_1 (R := R) (T := T3) mG_1 (by rw [mG_a (by decide)]; exact e3), mG_st (by decide)]
  rfl
theorem m_back {R S : Rw} {c w : Int32} : fX6_moveAll_p3 (0 : Int32) (mG (cw (tr G R) c w) S) J = some (mG (cw (tr G R) c w) R) := by
  rw [mv3_0 (R := S) (T := R) mG_1 (by rw [mG_a (by decide), cw_a _ _ _ (by decide), tr_3]), mG_put]
theorem m_tryc (h : Rel R1 R2 R3 K T SN SZ F G J) {R : Rw} : ∃ c w, fX6_moveAll_p3 (1 : Int32) (mG G R) J = some (mG (cw (tr G R) c w) R) := ⟨tr G R 0 0, tr G R 0 1, by rw [m_try h, cw_self (tr G R)]⟩
theorem e_days (h : Rel R1 R2 R3 K T SN SZ F G J) (x1 : Int32) : ∃ r R1' F' G', fX5_days x1 R1 R2 R3 K T SN SZ F = some (r, R1', F') ∧ fX6_days x1 G J = some (r, G') ∧ Rel R1' R2 R3 K T SN SZ F' G' J := by
  obtain ⟨R, u, d, hI, rfl, hG⟩ := h.real
  have h6 := hI.many
  have h0 := hI.day
  by_cases hp : (1 : Int32) ≤ x1 ∧ x1 ≤ 100
  · obtain ⟨n, hn1, hn2, rfl⟩ := rng (a := 1) (b := 100) (by decide) (by decide) hp
    by_cases h9 : R 0 + n ≤ 9999
    · obtain ⟨u', d', hc⟩ := c_days (u := u) (d := d) hI (n := n) (by omega) (by omega)
      obtain ⟨c, w, hm⟩ := m_days (G := G) (J := J) hI (n := n) (by omega) (by omega)
      have hJ := dn_invD hI n h9
      refine ⟨nI (onS (dn R n)), encL (dn R n) u' d', F, mG (cw G c w) (dn R n), ?_, ?_, h.set hJ c w⟩
      · unfold fX5_days
        rw [within_true hp, bind_eq, ifn10, encL_0 (by decide), n_add, if_pos (show nI (R 0 + n) ≤ (9999 : Int32) from i_le (b := 9999) (by omega) (by decide) h9), hc, bind_eq, c_on hJ, bind_eq]
      · have q : fX6_days (nI n) (mG G R) J = some (nI (onS (dn R n)), mG (cw G c w) (dn R n)) := by
          unfold fX6_days
          rw [in_true hp, bind_eq, ifn10, show (0 : Int32) = nI 0 from rfl, g_inb (by omega) (by omega), n_cl (by omega), mG_r (by decide), n_add, if_pos (show nI (R 0 + n) ≤ (9999 : Int32) from i_le (b := 9999) (by omega) (by decide) h9), hm, bind_eq, m_on hJ, bind_eq]
        rw [mG_self hG] at q; exact q
    · have h9' : ¬ nI (R 0 + n) ≤ (9999 : Int32) := i_nle (b := 9999) (by omega) (by decide) (by omega)
      refine ⟨(-1000000005 : Int32), _, _, _, ?_, ?_, h.find 4⟩
      · simp only [fX5_days, within_true hp, encL_0 (show 0 < 7 by decide), n_add, if_neg h9', bind_eq, bind2_eq, ifn10, reduceIte, c_tell4]
      · have q : fX6_days (nI n) (mG G R) J = some ((-1000000005 : Int32), st2 (mG G R) 2 (upd (mG G R 2) 4 (mG G R 2 4 + 1))) := by
          simp only [fX6_days, in_true hp, show ∀ k : Option (Int32 × M2), grd (inb (0 : Int32) 75) k = k from fun _ => rfl, show (0 : Int32).toNatClampNeg = 0 from rfl, mG_r (show 0 < 75 by decide), n_add, if_neg h9', bind_eq, bind2_eq, ifn10, reduceIte, m_find4]
        rw [mG_self hG] at q; exact q
  · refine ⟨(-1000000001 : Int32), _, _, _, ?_, ?_, h.find 0⟩
    · simp only [fX5_days, within_false hp, bind_eq, bind2_eq, ifn10, reduceIte, c_tell0]
    · have q : fX6_days x1 (mG G R) J = some ((-1000000001 : Int32), st2 (mG G R) 2 (upd (mG G R 2) 0 (mG G R 2 0 + 1))) := by
        simp only [fX6_days, in_false hp, bind_eq, bind2_eq, ifn10, reduceIte, m_find0]
      rw [mG_self hG] at q; exact q
theorem e_oil (h : Rel R1 R2 R3 K T SN SZ F G J) (x1 : Int32) : ∃ r R2' F' G', fX5_oil x1 R1 R2 R3 K T SN SZ F = some (r, R2', F') ∧ fX6_oil x1 G J = some (r, G') ∧ Rel R1 R2' R3 K T SN SZ F' G' J := by
  obtain ⟨R, u, d, hI, rfl, hG⟩ := h.real
  have h6 := hI.many
  obtain ⟨Rt, ut, dt, rfl⟩ := h.trial
  by_cases hp : (0 : Int32) ≤ x1 ∧ x1 ≤ 200
  · obtain ⟨n, hn1, hn2, rfl⟩ := rng (a := 0) (b := 200) (by decide) (by decide) hp
    obtain ⟨u', d', hc⟩ := c_days (u := ut) (d := dt) hI (n := n) (by omega) (by omega)
    obtain ⟨c, w, hm⟩ := m_days (G := tr G R) (J := J) hI (n := n) (by omega) (by omega)
    refine ⟨nI (dn R n 2), encL (dn R n) u' d', F, mG (cw (tr G R) c w) R, ?_, ?_, h.ask hG _ _ _ c w⟩
    · unfold fX5_oil
      rw [within_true hp, bind_eq, ifn10, c_start, bind_eq, hc, bind_eq, encL_0 (by decide)]
    · have q : fX6_oil (nI n) (mG G R) J = some (nI (dn R n 2), mG (cw (tr G R) c w) R) := by
        unfold fX6_oil
        rw [in_true hp, bind_eq, ifn10, m_try h, bind_eq, hm, bind_eq, show (2 : Int32) = nI 2 from rfl, g_inb (by omega) (by omega), n_cl (by omega), mG_r (by decide), letb_eq, m_back, bind_eq]
      rw [mG_self hG] at q; exact q
  · refine ⟨(-1000000001 : Int32), _, _, _, ?_, ?_, h.find 0⟩
    · simp only [fX5_oil, within_false hp, bind_eq, bind2_eq, ifn10, reduceIte, c_tell0]
    · have q : fX6_oil x1 (mG G R) J = some ((-1000000001 : Int32), st2 (mG G R) 2 (upd (mG G R 2) 0 (mG G R 2 0 + 1))) := by
        simp only [fX6_oil, in_false hp, bind_eq, bind2_eq, ifn10, reduceIte, m_find0]
      rw [mG_self hG] at q; exact q
theorem e_on (h : Rel R1 R2 R3 K T SN SZ F G J) (x1 x2 x3 : Int32) : ∃ r R2' F' G', fX5_on x1 x2 x3 R1 R2 R3 K T SN SZ F = some (r, R2', F') ∧ fX6_on x1 x2 x3 G J = some (r, G') ∧ Rel R1 R2' R3 K T SN SZ F' G' J := by
  obtain ⟨R, u, d, hI, rfl, hG⟩ := h.real
  have h6 := hI.many
  obtain ⟨Rt, ut, dt, rfl⟩ := h.trial
  by_cases hk : isK R x1
  · by_cases hp : (0 : Int32) ≤ x2 ∧ x2 ≤ 200
    · by_cases hw : (0 : Int32) ≤ x3 ∧ x3 ≤ 2
      · obtain ⟨k, hk1, rfl⟩ := isK_nat hk
        obtain ⟨n, hn1, hn2, rfl⟩ := rng (a := 0) (b := 200) (by decide) (by decide) hp
        obtain ⟨v, -, hv2, rfl⟩ := rng (a := 0) (b := 2) (by decide) (by decide) hw
        have hk8 : k < 8 := by omega
        obtain ⟨u', d', hc⟩ := c_days (u := ut) (d := dt) hI (n := n) (by omega) (by omega)
        obtain ⟨c, w, hm⟩ := m_days (G := tr G R) (J := J) hI (n := n) (by omega) (by omega)
        rcases (show v = 0 ∨ v = 1 ∨ v = 2 by omega) with rfl | rfl | rfl
        · refine ⟨nI (dn R n (36 + 5 * k)), encL (dn R n) u' d', F, mG (cw (tr G R) c w) R, ?_, ?_, h.ask hG _ _ _ c w⟩
          · unfold fX5_on
            rw [c_has hI hk, bind_eq, ifn10, within_true hp, bind_eq, ifn10, within_true hw, bind_eq, ifn10, c_start, bind_eq, hc, bind_eq, if_pos (show nI 0 = (0 : Int32) from rfl), g_inb (by omega) (by omega), n_cl (by omega), encL_3 hk8]
          · have q : fX6_on (nI k) (nI n) (nI 0) (mG G R) J = some (nI (dn R n (36 + 5 * k)), mG (cw (tr G R) c w) R) := by
              have ei : fX6_its (nI k) (1 : Int32) (mG (cw (tr G R) c w) (dn R n)) J = some (nI (dn R n (36 + 5 * k))) := m_its1 hk8
              unfold fX6_on fX6_on_c69
              rw [m_one hI hk, bind_eq, ifn10, in_true hp, bind_eq, ifn10, in_true hw, bind_eq, ifn10, m_try h, bind_eq, hm, bind_eq, if_pos (show nI 0 = (0 : Int32) from rfl), ei, bind_eq, m_back, bind_eq]
            rw [mG_self hG] at q; exact q
        · refine ⟨nI (dn R n (38 + 5 * k)), encL (dn R n) u' d', F, mG (cw (tr G R) c w) R, ?_, ?_, h.ask hG _ _ _ c w⟩
          · unfold fX5_on
            rw [c_has hI hk, bind_eq, ifn10, within_true hp, bind_eq, ifn10, within_true hw, bind_eq, ifn10, c_start, bind_eq, hc, bind_eq, if_neg (show ¬ nI 1 = (0 : Int32) by decide), if_pos (show nI 1 = (1 : Int32) from rfl), g_inb (by omega) (by omega), n_cl (by omega), encL_5 hk8]
          · have q : fX6_on (nI k) (nI n) (nI 1) (mG G R) J = some (nI (dn R n (38 + 5 * k)), mG (cw (tr G R) c w) R) := by
              have ei : fX6_its (nI k) (3 : Int32) (mG (cw (tr G R) c w) (dn R n)) J = some (nI (dn R n (38 + 5 * k))) := m_its3 hk8
              unfold fX6_on fX6_on_c69
              rw [m_one hI hk, bind_eq, ifn10, in_true hp, bind_eq, ifn10, in_true hw, bind_eq, ifn10, m_try h, bind_eq, hm, bind_eq, if_neg (show ¬ nI 1 = (0 : Int32) by decide), if_pos (show nI 1 = (1 : Int32) from rfl), ei, bind_eq, m_back, bind_eq]
            rw [mG_self hG] at q; exact q
        · refine ⟨nI (dn R n (39 + 5 * k)), encL (dn R n) u' d', F, mG (cw (tr G R) c w) R, ?_, ?_, h.ask hG _ _ _ c w⟩
          · unfold fX5_on
            rw [c_has hI hk, bind_eq, ifn10, within_true hp, bind_eq, ifn10, within_true hw, bind_eq, ifn10, c_start, bind_eq, hc, bind_eq, if_neg (show ¬ nI 2 = (0 : Int32) by decide), if_neg (show ¬ nI 2 = (1 : Int32) by decide), g_inb (by omega) (by omega), n_cl (by omega), encL_6 hk8]
          · have q : fX6_on (nI k) (nI n) (nI 2) (mG G R) J = some (nI (dn R n (39 + 5 * k)), mG (cw (tr G R) c w) R) := by
              have ei : fX6_its (nI k) (4 : Int32) (mG (cw (tr G R) c w) (dn R n)) J = some (nI (dn R n (39 + 5 * k))) := m_its4 hk8
              unfold fX6_on fX6_on_c69
              rw [m_one hI hk, bind_eq, ifn10, in_true hp, bind_eq, ifn10, in_true hw, bind_eq, ifn10, m_try h, bind_eq, hm, bind_eq, if_neg (show ¬ nI 2 = (0 : Int32) by decide), if_neg (show ¬ nI 2 = (1 : Int32) by decide), ei, bind_eq, m_back, bind_eq]
            rw [mG_self hG] at q; exact q
      · refine ⟨(-1000000001 : Int32), _, _, _, ?_, ?_, h.find 0⟩
        · simp only [fX5_on, fX5_on_c31, c_has hI hk, within_true hp, within_false hw, bind_eq, bind2_eq, ifn10, reduceIte, c_tell0]
        · have q : fX6_on x1 x2 x3 (mG G R) J = some ((-1000000001 : Int32), st2 (mG G R) 2 (upd (mG G R 2) 0 (mG G R 2 0 + 1))) := by
            simp only [fX6_on, fX6_on_c28, m_one hI hk, in_true hp, in_false hw, bind_eq, bind2_eq, ifn10, reduceIte, m_find0]
          rw [mG_self hG] at q; exact q
    · refine ⟨(-1000000001 : Int32), _, _, _, ?_, ?_, h.find 0⟩
      · simp only [fX5_on, fX5_on_c31, c_has hI hk, within_false hp, bind_eq, bind2_eq, ifn10, reduceIte, c_tell0]
      · have q : fX6_on x1 x2 x3 (mG G R) J = some ((-1000000001 : Int32), st2 (mG G R) 2 (upd (mG G R 2) 0 (mG G R 2 0 + 1))) := by
          simp only [fX6_on, fX6_on_c28, m_one hI hk, in_false hp, bind_eq, bind2_eq, ifn10, reduceIte, m_find0]
        rw [mG_self hG] at q; exact q
  · refine ⟨(-1000000001 : Int32), _, _, _, ?_, ?_, h.find 0⟩
    · simp only [fX5_on, fX5_on_c31, c_hasN hI hk, bind_eq, bind2_eq, ifn10, reduceIte, c_tell0]
    · have q : fX6_on x1 x2 x3 (mG G R) J = some ((-1000000001 : Int32), st2 (mG G R) 2 (upd (mG G R 2) 0 (mG G R 2 0 + 1))) := by
        simp only [fX6_on, fX6_on_c28, m_oneN hI hk, bind_eq, bind2_eq, ifn10, reduceIte, m_find0]
      rw [mG_self hG] at q; exact q
theorem knows_lp (h : Rel R1 R2 R3 K T SN SZ F G J) {R : Rw} (hG : G 1 = encG R) {k : Nat} (hk8 : k < 8) {v : Nat} (hv : v < 9) : ∀ m i fuel {D : Nat} {S : Rw} {c w ut dt : Int32}, i + m = 201 → m < fuel → Inv D S → D + m < 99999 → ∃ r R2' F' G', fX5_knows_c31 fuel (nI k) (nI v) (nI i) R1 (encL S ut dt) R3 K T SN SZ F = some (r, R2', F') ∧ fX6_knows_c36 fuel (nI k) (nI v) (nI i) (mG (cw (tr G R) c w) S) J = some (r, G') ∧ Rel R1 R2' R3 K T SN SZ F' G' J := by
  intro m
  induction m with
  | zero =>
    intro i fuel D S c w ut dt hi hf hI hD
    cases fuel with
    | zero => omega
    | succ n =>
      have hgt : (200 : Int32) < nI i := i_lt (a := 200) (by decide) (by omega) (by omega)
      have hle : ¬ nI i ≤ (200 : Int32) := i_nle (b := 200) (by omega) (by decide) (by omega)
      refine ⟨(-1000000004 : Int32), _, _, _, ?_, ?_, (h.ask hG S ut dt c w).find 3⟩
      · rw [fX5_knows_c31, if_pos hgt]
        unfold fX5_knows_c65
        rw [c_tell3, bind2_eq]
      · rw [fX6_knows_c36, if_pos hgt]
        unfold fX6_knows_c66 fX6_knows_c92
        rw [m_back, bind_eq, if_neg hle, m_find3, bind2_eq]
        rfl
  | succ m ih =>
    intro i fuel D S c w ut dt hi hf hI hD
    cases fuel with
    | zero => omega
    | succ n =>
      have hgt : ¬ (200 : Int32) < nI i := i_nlt (a := 200) (by decide) (by omega) (by omega)
      have hle : nI i ≤ (200 : Int32) := i_le (b := 200) (by omega) (by decide) (by omega)
      obtain ⟨r, R2', F', G', q1, q2, q3⟩ := ih (i + 1) n (D := D + 1) (S := (dayS S).1) (c := eB (dayS S).2.1) (w := eB (dayS S).2.2) (ut := upI (dayS S)) (dt := eB (dayS S).2.2) (by omega) (by omega) (day_inv hI (by omega)) (by omega)
      have ei : fX6_its (nI k) (3 : Int32) (mG (cw (tr G R) c w) S) J = some (nI (S (38 + 5 * k))) := m_its3 hk8
      have hwd := hI.words hk8
      have hb := bit_lt (S (38 + 5 * k)) v
      rw [fX5_knows_c31, fX6_knows_c36, if_neg hgt, if_neg hgt, c_knows hI hk8 hv, ei, bind_eq, bind_eq, bitN (by omega) hv]
      rcases (show bit (S (38 + 5 * k)) v = 0 ∨ bit (S (38 + 5 * k)) v = 1 by omega) with hb0 | hb0
      · refine ⟨r, R2', F', G', ?_, ?_, q3⟩
        · rw [hb0, if_pos (show nI 0 = (0 : Int32) from rfl), c_day hI (by omega), bind_eq, letb_eq, show nI i + (1 : Int32) = nI (i + 1) from n_add i 1]
          exact q1
        · rw [hb0, if_pos (show nI 0 = (0 : Int32) from rfl), m_day hI (by omega), bind_eq, letb_eq, show nI i + (1 : Int32) = nI (i + 1) from n_add i 1, cw_cw]
          exact q2
      · refine ⟨nI i, _, _, mG (cw (tr G R) c w) R, ?_, ?_, h.ask hG S ut dt c w⟩
        · rw [hb0, if_neg (show ¬ nI 1 = (0 : Int32) by decide)]
          rfl
        · rw [hb0, if_neg (show ¬ nI 1 = (0 : Int32) by decide)]
          unfold fX6_knows_c66 fX6_knows_c92
          rw [m_back, bind_eq, if_pos hle]
theorem ashore_lp (h : Rel R1 R2 R3 K T SN SZ F G J) {R : Rw} (hG : G 1 = encG R) {k : Nat} (hk8 : k < 8) : ∀ m i fuel {D : Nat} {S : Rw} {c w ut dt : Int32}, i + m = 201 → m < fuel → Inv D S → D + m < 99999 → ∃ r R2' F' G', fX5_ashore_c24 fuel (nI k) (nI i) R1 (encL S ut dt) R3 K T SN SZ F = some (r, R2', F') ∧ fX6_ashore_c26 fuel (nI k) (nI i) (mG (cw (tr G R) c w) S) J = some (r, G') ∧ Rel R1 R2' R3 K T SN SZ F' G' J := by
  intro m
  induction m with
  | zero =>
    intro i fuel D S c w ut dt hi hf hI hD
    cases fuel with
    | zero => omega
    | succ n =>
      have hgt : (200 : Int32) < nI i := i_lt (a := 200) (by decide) (by omega) (by omega)
      have hle : ¬ nI i ≤ (200 : Int32) := i_nle (b := 200) (by omega) (by decide) (by omega)
      refine ⟨(-1000000004 : Int32), _, _, _, ?_, ?_, (h.ask hG S ut dt c w).find 3⟩
      · rw [fX5_ashore_c24, if_pos hgt]
        unfold fX5_ashore_c58
        rw [c_tell3, bind2_eq]
      · rw [fX6_ashore_c26, if_pos hgt]
        unfold fX6_ashore_c53 fX6_ashore_c79
        rw [m_back, bind_eq, if_neg hle, m_find3, bind2_eq]
        rfl
  | succ m ih =>
    intro i fuel D S c w ut dt hi hf hI hD
    cases fuel with
    | zero => omega
    | succ n =>
      have hgt : ¬ (200 : Int32) < nI i := i_nlt (a := 200) (by decide) (by omega) (by omega)
      have hle : nI i ≤ (200 : Int32) := i_le (b := 200) (by omega) (by decide) (by omega)
      obtain ⟨r, R2', F', G', q1, q2, q3⟩ := ih (i + 1) n (D := D + 1) (S := (dayS S).1) (c := eB (dayS S).2.1) (w := eB (dayS S).2.2) (ut := upI (dayS S)) (dt := eB (dayS S).2.2) (by omega) (by omega) (day_inv hI (by omega)) (by omega)
      have ei : fX6_its (nI k) (1 : Int32) (mG (cw (tr G R) c w) S) J = some (nI (S (36 + 5 * k))) := m_its1 hk8
      have hon := hI.on hk8
      rw [fX5_ashore_c24, fX6_ashore_c26, if_neg hgt, if_neg hgt, g_inb (by omega) (by omega), n_cl (by omega), encL_3 hk8, ei, bind_eq]
      rcases (show S (36 + 5 * k) = 1 ∨ S (36 + 5 * k) = 0 by omega) with hb0 | hb0
      · refine ⟨r, R2', F', G', ?_, ?_, q3⟩
        · rw [hb0, if_neg (show ¬ nI 1 = (0 : Int32) by decide), c_day hI (by omega), bind_eq, letb_eq, show nI i + (1 : Int32) = nI (i + 1) from n_add i 1]
          exact q1
        · rw [hb0, if_pos (show nI 1 = (1 : Int32) from rfl), m_day hI (by omega), bind_eq, letb_eq, show nI i + (1 : Int32) = nI (i + 1) from n_add i 1, cw_cw]
          exact q2
      · refine ⟨nI i, _, _, mG (cw (tr G R) c w) R, ?_, ?_, h.ask hG S ut dt c w⟩
        · rw [hb0, if_pos (show nI 0 = (0 : Int32) from rfl)]
          rfl
        · rw [hb0, if_neg (show ¬ nI 0 = (1 : Int32) by decide)]
          unfold fX6_ashore_c53 fX6_ashore_c79
          rw [m_back, bind_eq, if_pos hle]
theorem e_knows (h : Rel R1 R2 R3 K T SN SZ F G J) (x1 x2 : Int32) : ∃ r R2' F' G', fX5_knows x1 x2 R1 R2 R3 K T SN SZ F = some (r, R2', F') ∧ fX6_knows x1 x2 G J = some (r, G') ∧ Rel R1 R2' R3 K T SN SZ F' G' J := by
  obtain ⟨R, u, d, hI, rfl, hG⟩ := h.real
  have h6 := hI.many
  obtain ⟨Rt, ut, dt, rfl⟩ := h.trial
  by_cases hk : isK R x1
  · by_cases hp : (0 : Int32) ≤ x2 ∧ x2 ≤ 8
    · obtain ⟨k, hk1, rfl⟩ := isK_nat hk
      obtain ⟨v, -, hv2, rfl⟩ := rng (a := 0) (b := 8) (by decide) (by decide) hp
      obtain ⟨c, w, hc⟩ := m_tryc h (R := R)
      obtain ⟨r, R2', F', G', q1, q2, q3⟩ := knows_lp h hG (k := k) (by omega) (v := v) (by omega) 201 0 FU (D := 9999) (S := R) (c := c) (w := w) (ut := ut) (dt := dt) (by omega) (by rw [FU_eq]; omega) hI (by omega)
      refine ⟨r, R2', F', G', ?_, ?_, q3⟩
      · unfold fX5_knows
        rw [c_has hI hk, bind_eq, ifn10, c_wordT hp, bind_eq, ifn10, c_start, bind_eq]
        exact q1
      · have q : fX6_knows (nI k) (nI v) (mG G R) J = some (r, G') := by
          unfold fX6_knows
          rw [m_one hI hk, bind_eq, ifn10, in_true hp, bind_eq, ifn10, hc, bind_eq]
          exact q2
        rw [mG_self hG] at q; exact q
    · refine ⟨(-1000000001 : Int32), _, _, _, ?_, ?_, h.find 0⟩
      · simp only [fX5_knows, fX5_knows_c18, c_has hI hk, c_wordF hp, bind_eq, bind2_eq, ifn10, reduceIte, c_tell0]
      · have q : fX6_knows x1 x2 (mG G R) J = some ((-1000000001 : Int32), st2 (mG G R) 2 (upd (mG G R 2) 0 (mG G R 2 0 + 1))) := by
          simp only [fX6_knows, fX6_knows_c18, m_one hI hk, in_false hp, bind_eq, bind2_eq, ifn10, reduceIte, m_find0]
        rw [mG_self hG] at q; exact q
  · refine ⟨(-1000000001 : Int32), _, _, _, ?_, ?_, h.find 0⟩
    · simp only [fX5_knows, fX5_knows_c18, c_hasN hI hk, bind_eq, bind2_eq, ifn10, reduceIte, c_tell0]
    · have q : fX6_knows x1 x2 (mG G R) J = some ((-1000000001 : Int32), st2 (mG G R) 2 (upd (mG G R 2) 0 (mG G R 2 0 + 1))) := by
        simp only [fX6_knows, fX6_knows_c18, m_oneN hI hk, bind_eq, bind2_eq, ifn10, reduceIte, m_find0]
      rw [mG_self hG] at q; exact q
theorem e_ashore (h : Rel R1 R2 R3 K T SN SZ F G J) (x1 : Int32) : ∃ r R2' F' G', fX5_ashore x1 R1 R2 R3 K T SN SZ F = some (r, R2', F') ∧ fX6_ashore x1 G J = some (r, G') ∧ Rel R1 R2' R3 K T SN SZ F' G' J := by
  obtain ⟨R, u, d, hI, rfl, hG⟩ := h.real
  have h6 := hI.many
  obtain ⟨Rt, ut, dt, rfl⟩ := h.trial
  by_cases hk : isK R x1
  · obtain ⟨k, hk1, rfl⟩ := isK_nat hk
    obtain ⟨c, w, hc⟩ := m_tryc h (R := R)
    obtain ⟨r, R2', F', G', q1, q2, q3⟩ := ashore_lp h hG (k := k) (by omega) 201 0 FU (D := 9999) (S := R) (c := c) (w := w) (ut := ut) (dt := dt) (by omega) (by rw [FU_eq]; omega) hI (by omega)
    refine ⟨r, R2', F', G', ?_, ?_, q3⟩
    · unfold fX5_ashore
      rw [c_has hI hk, bind_eq, ifn10, c_start, bind_eq]
      exact q1
    · have q : fX6_ashore (nI k) (mG G R) J = some (r, G') := by
        unfold fX6_ashore
        rw [m_one hI hk, bind_eq, ifn10, hc, bind_eq]
        exact q2
      rw [mG_self hG] at q; exact q
  · refine ⟨(-1000000001 : Int32), _, _, _, ?_, ?_, h.find 0⟩
    · simp only [fX5_ashore, c_hasN hI hk, bind_eq, bind2_eq, ifn10, reduceIte, c_tell0]
    · have q : fX6_ashore x1 (mG G R) J = some ((-1000000001 : Int32), st2 (mG G R) 2 (upd (mG G R 2) 0 (mG G R 2 0 + 1))) := by
        simp only [fX6_ashore, m_oneN hI hk, bind_eq, bind2_eq, ifn10, reduceIte, m_find0]
      rw [mG_self hG] at q; exact q
end C4
