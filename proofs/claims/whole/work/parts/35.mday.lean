theorem pc_pow : ∀ i, i < 8 → ∀ a, a < 256 → a < 2 ^ i → pcount (a + 2 ^ i) = pcount a + 1 := by decide +kernel
/-- who came, who went -/
def cw (G : M2) (c w : Int32) : M2 := st2 G 0 (upd (upd (G 0) 0 c) 1 w)
theorem cw_cw (G : M2) (a b c w : Int32) : cw (cw G a b) c w = cw G c w := by
  unfold cw
  rw [st2_st2, st2_eq]
  congr 1
  rw [upd_comm (upd (G 0) 0 a) (by decide), upd_upd, upd_upd]
theorem cw_0 (G : M2) (a b : Int32) : cw G a b 0 0 = a := by
  unfold cw
  rw [st2_eq, upd_ne _ _ (by decide), upd_eq]
theorem cw_1 (G : M2) (a b : Int32) : cw G a b 0 1 = b := by
  unfold cw
  rw [st2_eq, upd_eq]
theorem cw_a (G : M2) (a b : Int32) {k : Nat} (h : k ≠ 0) : cw G a b k = G k := st2_ne _ _ h
theorem cw_0j (G : M2) (a b : Int32) {j : Nat} (h0 : j ≠ 0) (h1 : j ≠ 1) : cw G a b 0 j = G 0 j := by
  unfold cw
  rw [st2_eq, upd_ne _ _ h1, upd_ne _ _ h0]
section MD
variable {D : Nat} {R : Rw} {G : M2} {J : J2}
theorem pc_on_lp (hI : Inv D R) : ∀ m i acc, i + m = R 6 → acc < 2 ^ i → pcount (acc + sumM (fun k => if R (36 + 5 * k) = 1 then 2 ^ k else 0) i m) = pcount acc + sumM (fun k => if R (36 + 5 * k) = 1 then 1 else 0) i m ∧ acc + sumM (fun k => if R (36 + 5 * k) = 1 then 2 ^ k else 0) i m < 2 ^ (i + m) := by
  have h6 := hI.many
  intro m
  induction m with
  | zero => intro i acc _ h; exact ⟨rfl, h⟩
  | succ m ih =>
    intro i acc hi ha
    have hp : 2 ^ i ≤ 2 ^ 7 := Nat.pow_le_pow_right (by decide) (by omega)
    have hs : 2 ^ (i + 1) = 2 ^ i * 2 := Nat.pow_succ _ _
    show pcount (acc + ((if R (36 + 5 * i) = 1 then 2 ^ i else 0) + sumM (fun k => if R (36 + 5 * k) = 1 then 2 ^ k else 0) (i + 1) m)) = pcount acc + ((if R (36 + 5 * i) = 1 then 1 else 0) + sumM (fun k => if R (36 + 5 * k) = 1 then 1 else 0) (i + 1) m) ∧ acc + ((if R (36 + 5 * i) = 1 then 2 ^ i else 0) + sumM (fun k => if R (36 + 5 * k) = 1 then 2 ^ k else 0) (i + 1) m) < 2 ^ (i + (m + 1))
    rw [show i + (m + 1) = i + 1 + m by omega]
    by_cases hc : R (36 + 5 * i) = 1
    · obtain ⟨e1, e2⟩ := ih (i + 1) (acc + 2 ^ i) (by omega) (by omega)
      rw [if_pos hc, if_pos hc, ← Nat.add_assoc, e1, pc_pow i (by omega) acc (by omega) ha]
      exact ⟨by omega, e2⟩
    · obtain ⟨e1, e2⟩ := ih (i + 1) acc (by omega) (by omega)
      rw [if_neg hc, if_neg hc, Nat.zero_add, Nat.zero_add]
      exact ⟨e1, e2⟩
theorem pc_on (hI : Inv D R) : pcount (onS R) = cntS R 1 ∧ onS R < 256 := by
  have h6 := hI.many
  obtain ⟨e1, e2⟩ := pc_on_lp hI (R 6) 0 0 (by omega) (by decide)
  rw [Nat.zero_add] at e1 e2
  refine ⟨?_, ?_⟩
  · show pcount (sumM _ 0 (R 6)) = sumM _ 0 (R 6)
    rw [e1]
    exact Nat.zero_add _
  · have hp : 2 ^ (0 + R 6) ≤ 2 ^ 8 := Nat.pow_le_pow_right (by decide) (by omega)
    show sumM _ 0 (R 6) < 256
    omega
theorem m_bits_on (hI : Inv D R) : fX6_bits (nI (onS R)) = some (nI (cntS R 1)) := by
  obtain ⟨h1, h2⟩ := pc_on hI
  rw [bits_all _ (by omega), h1]
theorem mG_cw (x y : Int32) : st2 (st2 (mG G R) 0 (upd (mG G R 0) 0 x)) 0 (upd (st2 (mG G R) 0 (upd (mG G R 0) 0 x) 0) 1 y) = mG (cw G x y) R := by
  rw [st2_eq, st2_st2, mG_st (by decide), mG_a (by decide)]
  rfl
theorem m_rel185 (hI : Inv D R) {up : Nat} (hup : up < 8) (y : Int32) : fX6_relieves_c185 (nI up) y (mG G R) J = some (mG (cw G (nI up) y) (upS R (R 0 + 1) up)) := by
  have h0 := hI.day
  have hD := hI.2.2
  unfold fX6_relieves_c185 upS
  simp (disch := omega) only [n_1, n_0, n_2, m_puts1, bind_eq, g_inb, n_cl, mG_r, wr_ne, n_add, m_puts2, letb_eq, mG_cw]
theorem m_rel31 (hI : Inv D R) {up s b : Nat} (hup : up < 8) (hb : b ≤ 8) (hne : b ≠ up + 1) (h1 : 1 ≤ s) (hs : s < 100) : fX6_relieves_c31 (nI s) (nI up) (eB b) (mG G R) J = some (mG (cw G (nI up) (eB b)) (relS R s up b)) := by
  have a1 := hI.oil
  have a2 := hI.day
  have a3 := hI.2.2
  have b1 := brS_le (kd := R (35 + 5 * up)) hs
  have hIo := oilS_inv hI s up
  unfold fX6_relieves_c31
  simp (disch := omega) only [n_0, n_2, n_9999, g_inb, n_cl, mG_r, m_brings hI, bind_eq, n_add, m_held, mG_s, letb_eq]
  have eo : wr R 2 (cap (R 2 + brS (R (35 + 5 * up)) s)) = oilS R s up := rfl
  rw [eo]
  by_cases h0 : b = 0
  · subst h0
    rw [if_pos (show eB 0 < nI 0 from eB_neg), m_rel185 hIo hup]
    have e : oilS R s up 0 = R 0 := wr_ne _ _ (by decide)
    rw [e]
    rfl
  · obtain ⟨o, rfl⟩ : ∃ o, b = o + 1 := ⟨b - 1, by omega⟩
    have w1 := hIo.words hup
    have w2 := hIo.words (k := o) (by omega)
    have t1 := teS_le (kd := oilS R s up (35 + 5 * up)) hs
    have t2 := teS_le (kd := oilS R s up (35 + 5 * o)) hs
    have l1 := lrn_lt (oilS R s up (38 + 5 * up)) (oilS R s up (38 + 5 * o)) (teS (oilS R s up (35 + 5 * up)) s)
    have m1 := hIo.met hup
    have m2 := hIo.met (k := o) (by omega)
    have hI2 : Inv D (wr (oilS R s up) (38 + 5 * o) (oilS R s up (38 + 5 * o) ||| lrn (oilS R s up (38 + 5 * up)) (oilS R s up (38 + 5 * o)) (teS (oilS R s up (35 + 5 * up)) s))) := by
      refine Inv.set hIo ?_ (by omega)
      rw [bnd_words]
      have := or_lt (a := oilS R s up (38 + 5 * o)) (by omega) l1
      omega
    have eday : oilS R s up 0 = R 0 := wr_ne _ _ (by decide)
    rw [eB_s, if_neg (show ¬ nI o < nI 0 from i_nlt (b := 0) (by omega) (by decide) (by omega))]
    simp (disch := omega) only [n_0, n_1, n_2, n_3, n_4, n_9999, m_its3, m_its4, bind_eq, m_tells hIo, m_learnt, fa_or, m_puts3, m_puts4, m_puts1, m_puts2, m_tells hI2, n_add, m_held, wr_ne, g_inb, n_cl, mG_r, eday]
    have hI3 : Inv D (dnS (metS (oilS R s up) s up o) (R 0 + 1) o) := dnS_inv (metS_inv hIo hup (by omega)) (by omega)
    have e3 : dnS (metS (oilS R s up) s up o) (R 0 + 1) o 0 = R 0 := by
      unfold dnS metS
      simp (disch := omega) only [wr_ne, eday]
    have h := m_rel185 (G := G) (J := J) hI3 hup (nI o)
    rw [e3] at h
    unfold dnS metS at h
    unfold relS dnS metS
    rw [if_neg h0, Nat.add_sub_cancel]
    exact h
theorem m_relieves (hI : Inv D R) {s : Nat} (hz : fstS R 0 ≠ 0) (h1 : 1 ≤ s) (hs : s < 100) : fX6_relieves (nI s) (mG G R) J = some (mG (cw G (eB (fstS R 0)) (eB (outS R))) (relS R s (fstS R 0 - 1) (outS R))) := by
  have h6 := hI.many
  have hf := fstS_le R 0
  have ho := outS_le R h6
  obtain ⟨q, hq⟩ : ∃ q, fstS R 0 = q + 1 := ⟨fstS R 0 - 1, by omega⟩
  have hon : R (36 + 5 * q) = 0 := by
    rcases fstM_is R 0 (R 6) 0 0 (Or.inl rfl) with h | h
    · have : fstS R 0 = 0 := h
      omega
    · have e2 : fstM R 0 0 (R 6) 0 = q + 1 := hq
      rw [e2, Nat.add_sub_cancel] at h
      exact h
  have hn := outS_ne R hon
  have hb := hI.beds
  have hc : cntS R 1 ≤ 9 := by
    rw [← (pc_on hI).1]
    exact pcount_le _
  unfold fX6_relieves
  rw [show fX6_first (0 : Int32) (mG G R) J = some (eB (fstS R 0)) from m_fst hI.kp (x := 0) (by omega), bind_eq, m_on hI, bind_eq, m_bits_on hI, bind_eq, show ∀ k : Option M2, grd (inb (3 : Int32) 75) k = k from fun _ => rfl, show (3 : Int32).toNatClampNeg = 3 from rfl, mG_r (by decide), hq, eB_s, Nat.add_sub_cancel]
  have key := m_rel31 (G := G) (J := J) hI (up := q) (s := s) (b := outS R) (by omega) ho hn h1 hs
  by_cases hl : cntS R 1 < R 3
  · have e : outS R = 0 := by unfold outS; rw [if_pos hl]
    rw [if_pos (i_lt (by omega) (by omega) hl)]
    rw [e] at key ⊢
    exact key
  · have e : outS R = fstS R 1 := by unfold outS; rw [if_neg hl]
    rw [if_neg (i_nlt (by omega) (by omega) (by omega)), show fX6_first (1 : Int32) (mG G R) J = some (eB (fstS R 1)) from m_fst hI.kp (x := 1) (by omega), bind_eq, ← e]
    exact key
theorem m_day156 (hI : Inv D R) : fX6_oneDay_c156 (mG G R) J = some (mG G (wr R 0 (R 0 + 1))) := by
  have h0 := hI.day
  have hD := hI.2.2
  unfold fX6_oneDay_c156
  simp (disch := omega) only [n_0, n_1, g_inb, n_cl, mG_r, n_add, mG_s, letb_eq]
theorem m_day83 (hI : Inv D R) {s v : Nat} (hs : s < 100) (hv : v ≤ 9999) : fX6_oneDay_c83 (nI s) (nI v) (nI 2) (mG G R) J = some (if s = 0 then mG (cw G (-1) (-1)) (wr (wr R 2 v) 0 (R 0 + 1)) else mG (cw G (eB (galeS (wr R 2 v) s).2.1) (eB (galeS (wr R 2 v) s).2.2)) (wr (galeS (wr R 2 v) s).1 0 (R 0 + 1))) := by
  have h4 := hI.gales
  have h6 := hI.many
  have hI2 : Inv D (wr R 2 v) := Inv.set hI (show _ ≤ 9999 by omega) (by omega)
  have e20 : wr R 2 v 0 = R 0 := wr_ne _ _ (by decide)
  have e24 : wr R 2 v 4 = R 4 := wr_ne _ _ (by decide)
  unfold fX6_oneDay_c83
  rw [g_inb (by omega) (by omega), n_cl (by omega), mG_s (by omega), letb_eq, letb_eq, letb_eq, mG_cw]
  by_cases h0 : s = 0
  · subst h0
    rw [if_pos (show nI 0 ≤ 0 by decide), if_pos rfl, m_day156 hI2, e20]
  · rw [if_neg (show ¬ nI s ≤ 0 from i_nle (b := 0) (by omega) (by decide) (by omega)), if_neg h0]
    simp (disch := omega) only [n_4, n_1, n_3, g_inb, n_cl, mG_r, n_add, mG_s, letb_eq, wr_eq, e24]
    have e0 : fX6_first (0 : Int32) (mG (cw G (-1) (-1)) (wr (wr R 2 v) 4 (R 4 + 1))) J = some (eB (fstS (wr R 2 v) 0)) := by
      rw [← fstS_wr (wr R 2 v) (R 4 + 1) 0 (by decide : 4 < 35) (by decide)]
      exact m_fst (hI2.kp.set _ (by decide) (by decide)) (x := 0) (by omega)
    unfold galeS
    rw [e24]
    by_cases hg : R 4 + 1 < 3
    · rw [if_neg (i_ne (by omega) (by decide) (by omega)), if_pos hg, m_day156 (Inv.set hI2 (show _ ≤ 2 by omega) (by omega)), wr_ne _ _ (by decide), e20]
      rfl
    · rw [if_pos (by rw [show R 4 + 1 = 3 by omega]), if_neg hg]
      have e0' : fX6_first (0 : Int32) (mG (cw G (-nI 1) (-nI 1)) (wr (wr R 2 v) 4 (R 4 + 1))) J = some (eB (fstS (wr R 2 v) 0)) := e0
      have hI4 : ∀ x, x ≤ 2 → Inv D (wr (wr R 2 v) 4 x) := fun x hx => Inv.set hI2 (show _ ≤ 2 by omega) (by omega)
      have e40 : ∀ x, wr (wr R 2 v) 4 x 0 = R 0 := fun x => by rw [wr_ne _ _ (by decide), e20]
      rw [e0', bind_eq]
      by_cases hz : fstS (wr R 2 v) 0 = 0
      · rw [hz, if_pos eB_neg, if_pos rfl]
        unfold fX6_oneDay_c131 fX6_oneDay_c146
        rw [if_pos rfl]
        simp (disch := omega) only [n_4, n_2, g_inb, n_cl, mG_s, letb_eq, wr_wr]
        rw [if_pos trivial, m_day156 (hI4 2 (by omega)), e40]
        rfl
      · have hf := fstS_le (wr R 2 v) 0
        have e26 : wr R 2 v 6 = R 6 := wr_ne _ _ (by decide)
        obtain ⟨q, hq⟩ : ∃ q, fstS (wr R 2 v) 0 = q + 1 := ⟨fstS (wr R 2 v) 0 - 1, by omega⟩
        rw [if_neg (by rw [hq, eB_s]; exact i_nneg (by omega)), if_neg hz]
        unfold fX6_oneDay_c131 fX6_oneDay_c146
        rw [if_neg (by decide)]
        simp (disch := omega) only [n_4, n_0, g_inb, n_cl, mG_s, letb_eq, wr_wr]
        have ez : fstS (wr (wr R 2 v) 4 0) 0 = fstS (wr R 2 v) 0 := fstS_wr _ _ _ (by decide) (by decide)
        have eo : outS (wr (wr R 2 v) 4 0) = outS (wr R 2 v) := outS_wr _ _ (by decide) (by decide) (by decide)
        change (if (1 : Int32) = 0 then _ else _) = _
        rw [if_neg (by decide : ¬ (1 : Int32) = 0), m_relieves (hI4 0 (by omega)) (by rw [ez]; exact hz) (by omega) hs, bind_eq, ez, eo, cw_cw]
        have hr : Inv D (relS (wr (wr R 2 v) 4 0) s (fstS (wr R 2 v) 0 - 1) (outS (wr R 2 v))) := relS_inv (hI4 0 (by omega)) (by omega) (outS_le _ (by omega))
        have er : relS (wr (wr R 2 v) 4 0) s (fstS (wr R 2 v) 0 - 1) (outS (wr R 2 v)) 0 = R 0 := by
          unfold relS upS dnS metS oilS
          split <;> simp (disch := omega) only [wr_ne]
        rw [m_day156 hr, er]
theorem m_day55 (hI : Inv D R) {need s v : Nat} (hn : need < 1000) (hs : s < 100) (hv : v ≤ 9999) : fX6_oneDay_c55 (nI need) (nI s) (nI v) (nI 5) (mG G R) J = fX6_oneDay_c83 (nI s) (nI (if need ≤ R 2 then R 2 - need else 0)) (nI 2) (mG G (wr R 5 v)) J := by
  have h2 := hI.oil
  unfold fX6_oneDay_c55
  simp (disch := omega) only [n_2, g_inb, n_cl, mG_s, letb_eq, mG_r, wr_ne]
  by_cases hc : need ≤ R 2
  · rw [if_pos (i_le (by omega) (by omega) hc), if_pos hc, n_sub hc]
  · rw [if_neg (i_nle (by omega) (by omega) (by omega)), if_neg hc]
    rfl
/-- the day of the model -/
theorem m_day (hI : Inv D R) (hD : D + 1 < 100000) : fX6_oneDay (mG G R) J = some (mG (cw G (eB (dayS R).2.1) (eB (dayS R).2.2)) (dayS R).1) := by
  have h2 := hI.oil
  have h5 := hI.dark
  have h0 := hI.day
  have hu := usAll_le hI
  have hsl := secS_le hI (R 0)
  unfold fX6_oneDay
  rw [m_usAll hI, bind_eq]
  simp (disch := omega) only [n_0, n_2, n_5, n_1, n_9999, g_inb, n_cl, mG_r, m_sec hI, bind_eq, n_add, m_held, n_le]
  have fin : ∀ v, v ≤ 9999 → burnS R (usAll R) = wr (wr R 5 v) 2 (if usAll R ≤ R 2 then R 2 - usAll R else 0) → fX6_oneDay_c55 (nI (usAll R)) (nI (secS R (R 0))) (nI v) (nI 5) (mG G R) J = some (mG (cw G (eB (dayS R).2.1) (eB (dayS R).2.2)) (dayS R).1) := by
    intro v hv hb
    have hI5 : Inv D (wr R 5 v) := Inv.set hI (show _ ≤ 9999 by omega) (by omega)
    rw [m_day55 hI (by omega) (by omega) hv, m_day83 hI5 (by omega) (by split <;> omega), ← hb, wr_ne _ _ (by decide)]
    unfold dayS
    by_cases hz : secS R (R 0) = 0
    · rw [if_pos hz, if_pos hz]; rfl
    · rw [if_neg hz, if_neg hz]
  by_cases hc : usAll R ≤ R 2
  · rw [if_pos hc]
    refine fin (R 5) h5 ?_
    unfold burnS
    rw [if_pos hc, if_pos hc, wr_same]
  · rw [if_neg hc]
    refine fin _ (cap_le _) ?_
    unfold burnS
    rw [if_neg hc, if_neg hc]
end MD
