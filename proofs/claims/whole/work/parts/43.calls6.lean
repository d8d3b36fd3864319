section C6
variable {R1 R2 R3 : M2} {K : Int32} {T : M2} {SN : J2} {SZ : M2} {F : M1} {G : M2} {J : J2}
theorem heard_lp {D : Nat} {R S : Rw} (hI : Inv D S) {c w : Int32} {v : Nat} (hv : v < 9) : ∀ m i acc fuel, i + m = S 6 → m < fuel → fX6_heard_c47 fuel (nI v) (nI acc) (nI i) (mG (cw (tr G R) c w) S) J = some (nI (acc + sumM (fun k => bit (S (38 + 5 * k)) v) i m), mG (cw (tr G R) c w) R) := by
  have h6 := hI.many
  intro m
  induction m with
  | zero =>
    intro i acc fuel hi hf
    obtain ⟨f, rfl⟩ : ∃ f, fuel = f + 1 := ⟨fuel - 1, by omega⟩
    rw [fX6_heard_c47, g_6, t_6, mG_r (by decide), if_pos (i_le (by omega) (by omega) (by omega))]
    unfold fX6_heard_c79
    rw [m_back, bind_eq]
    rfl
  | succ m ih =>
    intro i acc fuel hi hf
    obtain ⟨f, rfl⟩ : ∃ f, fuel = f + 1 := ⟨fuel - 1, by omega⟩
    have hwd := hI.words (k := i) (by omega)
    have ei : fX6_its (nI i) (3 : Int32) (mG (cw (tr G R) c w) S) J = some (nI (S (38 + 5 * i))) := m_its3 (by omega)
    rw [fX6_heard_c47, g_6, t_6, mG_r (by decide), if_neg (i_nle (by omega) (by omega) (by omega)), ei, bind_eq, bitN (by omega) hv, letb_eq, letb_eq, n_add, show nI i + (1 : Int32) = nI (i + 1) from n_add i 1, ih (i + 1) _ f (by omega) (by omega), Nat.add_assoc]
    rfl
theorem e_heard (h : Rel R1 R2 R3 K T SN SZ F G J) (x1 x2 : Int32) : ∃ r R2' F' G', fX5_heard x1 x2 R1 R2 R3 K T SN SZ F = some (r, R2', F') ∧ fX6_heard x1 x2 G J = some (r, G') ∧ Rel R1 R2' R3 K T SN SZ F' G' J := by
  obtain ⟨R, u, d, hI, rfl, hG⟩ := h.real
  have h6 := hI.many
  obtain ⟨Rt, ut, dt, rfl⟩ := h.trial
  by_cases hw : (0 : Int32) ≤ x1 ∧ x1 ≤ 8
  · by_cases hp : (0 : Int32) ≤ x2 ∧ x2 ≤ 200
    · obtain ⟨v, -, hv2, rfl⟩ := rng (a := 0) (b := 8) (by decide) (by decide) hw
      obtain ⟨n, -, hn2, rfl⟩ := rng (a := 0) (b := 200) (by decide) (by decide) hp
      obtain ⟨u', d', hc⟩ := c_days (u := ut) (d := dt) hI (n := n) (by omega) (by omega)
      obtain ⟨c, w, hm⟩ := m_days (G := tr G R) (J := J) hI (n := n) (by omega) (by omega)
      have hJ := dn_inv (D := 0) n hI (by omega)
      have h6' := hJ.many
      have hl := heard_lp (G := G) (J := J) (R := R) hJ (c := c) (w := w) (v := v) (by omega) (dn R n 6) 0 0 FU (by omega) (by rw [FU_eq]; omega)
      refine ⟨nI (knwS (dn R n) v), encL (dn R n) u' d', F, mG (cw (tr G R) c w) R, ?_, ?_, h.ask hG _ _ _ c w⟩
      · unfold fX5_heard
        rw [c_wordT hw, bind_eq, ifn10, within_true hp, bind_eq, ifn10, c_start, bind_eq, hc, bind_eq, c_knw hJ (by omega), bind_eq]
      · have q : fX6_heard (nI v) (nI n) (mG G R) J = some (nI (knwS (dn R n) v), mG (cw (tr G R) c w) R) := by
          unfold fX6_heard
          rw [in_true hw, bind_eq, ifn10, in_true hp, bind_eq, ifn10, m_try h, bind_eq, hm, bind_eq]
          rw [Nat.zero_add] at hl
          exact hl
        rw [mG_self hG] at q; exact q
    · refine ⟨(-1000000001 : Int32), _, _, _, ?_, ?_, h.find 0⟩
      · simp only [fX5_heard, fX5_heard_c18, c_wordT hw, within_false hp, bind_eq, bind2_eq, ifn10, reduceIte, c_tell0]
      · have q : fX6_heard x1 x2 (mG G R) J = some ((-1000000001 : Int32), st2 (mG G R) 2 (upd (mG G R 2) 0 (mG G R 2 0 + 1))) := by
          simp only [fX6_heard, fX6_heard_c21, in_true hw, in_false hp, bind_eq, bind2_eq, ifn10, reduceIte, m_find0]
        rw [mG_self hG] at q; exact q
  · refine ⟨(-1000000001 : Int32), _, _, _, ?_, ?_, h.find 0⟩
    · simp only [fX5_heard, fX5_heard_c18, c_wordF hw, bind_eq, bind2_eq, ifn10, reduceIte, c_tell0]
    · have q : fX6_heard x1 x2 (mG G R) J = some ((-1000000001 : Int32), st2 (mG G R) 2 (upd (mG G R 2) 0 (mG G R 2 0 + 1))) := by
        simp only [fX6_heard, fX6_heard_c21, in_false hw, bind_eq, bind2_eq, ifn10, reduceIte, m_find0]
      rw [mG_self hG] at q; exact q
def tnS (R : Rw) (k v : Nat) : Rw := wr (wr R (36 + 5 * k) v) (37 + 5 * k) (R 0)
theorem tn_inv {D : Nat} {R : Rw} (hI : Inv D R) {k v : Nat} (hv : v ≤ 1) : Inv D (tnS R k v) := Inv.set (Inv.set hI (by rw [bnd_on]; exact hv) (by omega)) (by rw [bnd_since]; have := hI.day; omega) (by omega)
theorem c_stand {R : Rw} {u d : Int32} {k v : Nat} (hk8 : k < 8) : fX1_putStand (nI k) (nI v) (encL R u d) = some (nI (R (36 + 5 * k)), encL (tnS R k v) u d) := by
  unfold fX1_putStand
  rw [g_inb (by omega) (by omega), n_cl (by omega), encL_3 hk8, letb_eq, g_inb (by omega) (by omega), encL_s3 hk8, letb_eq, g_inb (by omega) (by omega), encL_0 (by decide), wr_ne _ _ (by omega), encL_s4 hk8, letb_eq]
  rfl
theorem m_turnsOn {R : Rw} {k v : Nat} (hk8 : k < 8) : fX6_turnsOn (nI k) (nI v) (mG G R) J = some (nI (R (36 + 5 * k)), mG G (tnS R k v)) := by
  unfold fX6_turnsOn
  rw [show (1 : Int32) = nI 1 from rfl, m_its1 hk8, bind_eq, m_puts1 hk8, bind_eq, show (0 : Int32) = nI 0 from rfl, g_inb (by omega) (by omega), n_cl (by omega), mG_r (by decide), wr_ne _ _ (by omega), show (2 : Int32) = nI 2 from rfl, m_puts2 hk8, bind_eq]
  rfl
theorem change_lp {R1 : M2} (h : Rel R1 R2 R3 K T SN SZ F G J) {R : Rw} {u d : Int32} (hR : R1 = encL R u d) (hI : Inv 9999 R) (hG : G 1 = encG R) {n : Nat} (hn : n ≤ 100) : ∀ m i fuel {S : Rw} {c w ut dt y z : Int32}, i + m = R 6 → m < fuel → ∃ r R2' F' G', fX5_change_c42 fuel (nI n) z y (nI i) R1 (encL S ut dt) R3 K T SN SZ F = some (r, R2', F') ∧ fX6_change_c52 fuel (nI n) y z (nI i) (mG (cw (tr G R) c w) R) J = some (r, G') ∧ Rel R1 R2' R3 K T SN SZ F' G' J := by
  have h6 := hI.many
  intro m
  induction m with
  | zero =>
    intro i fuel S c w ut dt y z hi hf
    obtain ⟨f, rfl⟩ : ∃ f, fuel = f + 1 := ⟨fuel - 1, by omega⟩
    have hg : nI (R 6) ≤ nI i := i_le (by omega) (by omega) (by omega)
    rw [fX5_change_c42, hR, encL_0 (by decide), ← hR, if_pos hg, fX6_change_c52, g_6, t_6, mG_r (by decide), if_pos hg]
    unfold fX5_change_c123 fX5_change_c137 fX6_change_c134 fX6_change_c148
    by_cases hy : 0 ≤ y
    · rw [if_pos hy, if_pos hy]
      exact ⟨_, _, _, _, rfl, rfl, h.ask hG S ut dt c w⟩
    · rw [if_neg hy, if_neg hy, c_tell3, m_find3, bind2_eq, bind2_eq]
      exact ⟨_, _, _, _, rfl, rfl, (h.ask hG S ut dt c w).find 3⟩
  | succ m ih =>
    intro i fuel S c w ut dt y z hi hf
    obtain ⟨f, rfl⟩ : ∃ f, fuel = f + 1 := ⟨fuel - 1, by omega⟩
    have hg : ¬ nI (R 6) ≤ nI i := i_nle (by omega) (by omega) (by omega)
    have hi8 : i < 8 := by omega
    have hon := hI.on hi8
    have hJ : Inv 9999 (tnS R i (1 - R (36 + 5 * i))) := tn_inv hI (by omega)
    have hJn := dn_inv (D := 0) n hJ (by omega)
    obtain ⟨u', d', hc⟩ := c_days (u := ut) (d := dt) hJ (n := n) (by omega) (by omega)
    obtain ⟨c', w', hm⟩ := m_days (G := cw (tr G R) c w) (J := J) hJ (n := n) (by omega) (by omega)
    rw [cw_cw] at hm
    have ei : fX6_its (nI i) (1 : Int32) (mG (cw (tr G R) c w) R) J = some (nI (R (36 + 5 * i))) := m_its1 hi8
    have et : fX6_turnsOn (nI i) ((1 : Int32) - nI (R (36 + 5 * i))) (mG (cw (tr G R) c w) R) J = some (nI (R (36 + 5 * i)), mG (cw (tr G R) c w) (tnS R i (1 - R (36 + 5 * i)))) := by
      rw [show (1 : Int32) = nI 1 from rfl, n_sub (by omega)]
      exact m_turnsOn hi8
    have es : ∀ (k42 : Int32 → Int32 → Int32 → Int32 → M2 → M2 → M2 → Int32 → M2 → J2 → M2 → M1 → Option (Int32 × M2 × M1)), (if nI (R (36 + 5 * i)) = (1 : Int32) then fX5_change_c83 k42 (nI n) z y (nI i) 0 (nI i) R1 (encL R ut dt) R3 K T SN SZ F else fX5_change_c83 k42 (nI n) z y (nI i) 1 (nI i) R1 (encL R ut dt) R3 K T SN SZ F) = fX5_change_c83 k42 (nI n) z y (nI i) (nI (1 - R (36 + 5 * i))) (nI i) R1 (encL R ut dt) R3 K T SN SZ F := by
      intro k42
      rcases (show R (36 + 5 * i) = 1 ∨ R (36 + 5 * i) = 0 by omega) with e | e
      · rw [e, if_pos (show nI 1 = (1 : Int32) from rfl)]; rfl
      · rw [e, if_neg (show ¬ nI 0 = (1 : Int32) by decide)]; rfl
    rw [fX5_change_c42, hR, encL_0 (by decide), if_neg hg, c_start, bind_eq, g_inb (by omega) (by omega), n_cl (by omega), encL_3 hi8, ← hR, es]
    rw [fX6_change_c52, g_6, t_6, mG_r (by decide), if_neg hg, ei, bind_eq, et, bind2_eq, hm, bind_eq, show ∀ k : Option (Int32 × M2), grd (inb (2 : Int32) 75) k = k from fun _ => rfl, show (2 : Int32).toNatClampNeg = 2 from rfl, mG_r (by decide), letb_eq, m_back, bind_eq]
    unfold fX5_change_c83 fX5_change_c117 fX6_change_c114 fX6_change_c127
    rw [c_stand hi8, bind2_eq, hc, bind_eq, encL_0 (by decide)]
    rw [letb_eq, letb_eq, letb_eq, show nI i + (1 : Int32) = nI (i + 1) from n_add i 1]
    by_cases hq : nI (dn (tnS R i (1 - R (36 + 5 * i))) n 2) ≤ z
    · rw [if_pos hq, if_pos hq, if_pos hq]
      exact ih (i + 1) f (by omega) (by omega)
    · rw [if_neg hq, if_neg hq, if_neg hq]
      exact ih (i + 1) f (by omega) (by omega)
theorem e_change (h : Rel R1 R2 R3 K T SN SZ F G J) (x1 : Int32) : ∃ r R2' F' G', fX5_change x1 R1 R2 R3 K T SN SZ F = some (r, R2', F') ∧ fX6_change x1 G J = some (r, G') ∧ Rel R1 R2' R3 K T SN SZ F' G' J := by
  obtain ⟨R, u, d, hI, rfl, hG⟩ := h.real
  have h6 := hI.many
  obtain ⟨Rt, ut, dt, rfl⟩ := h.trial
  by_cases hp : (1 : Int32) ≤ x1 ∧ x1 ≤ 60
  · obtain ⟨n, -, hn2, rfl⟩ := rng (a := 1) (b := 60) (by decide) (by decide) hp
    obtain ⟨u', d', hc⟩ := c_days (u := ut) (d := dt) hI (n := n) (by omega) (by omega)
    obtain ⟨c, w, hm⟩ := m_days (G := tr G R) (J := J) hI (n := n) (by omega) (by omega)
    obtain ⟨r, R2', F', G', q1, q2, q3⟩ := change_lp h rfl hI hG (n := n) (by omega) (R 6) 0 FU (S := dn R n) (c := c) (w := w) (ut := u') (dt := d') (y := -1) (z := nI (dn R n 2)) (by omega) (by rw [FU_eq]; omega)
    refine ⟨r, R2', F', G', ?_, ?_, q3⟩
    · unfold fX5_change
      rw [within_true hp, bind_eq, ifn10, c_start, bind_eq, hc, bind_eq, encL_0 (by decide), letb_eq]
      exact q1
    · have q : fX6_change (nI n) (mG G R) J = some (r, G') := by
        unfold fX6_change
        rw [in_true hp, bind_eq, ifn10, m_try h, bind_eq, hm, bind_eq, show ∀ k : Option (Int32 × M2), grd (inb (2 : Int32) 75) k = k from fun _ => rfl, show (2 : Int32).toNatClampNeg = 2 from rfl, mG_r (by decide), letb_eq, m_back, bind_eq]
        exact q2
      rw [mG_self hG] at q; exact q
  · refine ⟨(-1000000001 : Int32), _, _, _, ?_, ?_, h.find 0⟩
    · simp only [fX5_change, within_false hp, bind_eq, bind2_eq, ifn10, reduceIte, c_tell0]
    · have q : fX6_change x1 (mG G R) J = some ((-1000000001 : Int32), st2 (mG G R) 2 (upd (mG G R 2) 0 (mG G R 2 0 + 1))) := by
        simp only [fX6_change, in_false hp, bind_eq, bind2_eq, ifn10, reduceIte, m_find0]
      rw [mG_self hG] at q; exact q
theorem e_wipe (h : Rel R1 R2 R3 K T SN SZ F G J) : ∃ r T' G', fX5_wipe R1 R2 R3 K T SN SZ F = some (r, T') ∧ fX6_wipe G J = some (r, G') ∧ Rel R1 R2 R3 K T' SN SZ F G' J := by
  obtain ⟨h1, ⟨tl, ht, e1, e2, e3, e4⟩, h3, h4⟩ := h
  refine ⟨nI tl, st2 T 0 (upd (T 0) 0 0), st2 G 0 (upd (G 0) 2 0), ?_, ?_, ?_⟩
  · rw [← e1]; rfl
  · rw [← e2]; rfl
  · unfold Rel
    simp (disch := decide) only [st2_ne, st2_eq, upd_ne, upd_eq]
    refine ⟨h1, ⟨0, by omega, ?_, rfl, ?_, e4⟩, h3, h4⟩
    · simp (disch := decide) only [st2_ne, st2_eq, upd_ne, upd_eq]
      rfl
    · intro j hj
      simp (disch := decide) only [st2_ne, st2_eq]
      exact e3 j hj
theorem e_image (h : Rel R1 R2 R3 K T SN SZ F G J) : ∃ r R3' K' G', fX5_image R1 R2 R3 K T SN SZ F = some (r, R3', K') ∧ fX6_image G J = some (r, G') ∧ Rel R1 R2 R3' K' T SN SZ F G' J := by
  obtain ⟨⟨R0, u0, d0, Rt, ut, dt, Rk, uk, dk, T3, T4, T8, T9, hI0, e1, e2, e3, e4, e5, e6, e7, e8, e9, e10, e11⟩, h2, h3, h4⟩ := h
  refine ⟨1, encL R0 uk dk, 1, st2 (st2 G 8 (encG R0)) 0 (upd (G 0) 8 1), ?_, ?_, ?_⟩
  · unfold fX5_image
    rw [e1, e3, c_like, bind_eq]
    rfl
  · unfold fX6_image
    rw [mv8_1 e4 e7, bind_eq]
    rfl
  · unfold Rel
    simp (disch := decide) only [st2_ne, st2_eq, upd_ne, upd_eq]
    exact ⟨⟨R0, u0, d0, Rt, ut, dt, R0, uk, dk, T3, T4, R0, T9, hI0, e1, e2, rfl, e4, e5, e6, rfl, e8, Or.inr rfl, rfl, fun _ => ⟨hI0, rfl⟩⟩, h2, h3, h4⟩
theorem e_undo (h : Rel R1 R2 R3 K T SN SZ F G J) : ∃ r R1' F' G', fX5_undo R1 R2 R3 K T SN SZ F = some (r, R1', F') ∧ fX6_undo G J = some (r, G') ∧ Rel R1' R2 R3 K T SN SZ F' G' J := by
  have h' := h
  obtain ⟨⟨R0, u0, d0, Rt, ut, dt, Rk, uk, dk, T3, T4, T8, T9, hI0, e1, e2, e3, e4, e5, e6, e7, e8, e9, e10, e11⟩, h2, h3, h4⟩ := h
  rcases e9 with k0 | k0
  · refine ⟨(-1000000004 : Int32), _, _, _, ?_, ?_, h'.find 3⟩
    · unfold fX5_undo
      rw [if_pos k0, c_tell3, bind2_eq]
    · unfold fX6_undo
      rw [if_pos (by rw [e10]; exact k0), m_find3, bind2_eq]
  · obtain ⟨hIk, eT⟩ := e11 k0
    have hn0 : ¬ K = 0 := by rw [k0]; decide
    refine ⟨nI (Rk 6), encL Rk u0 d0, F, st2 G 1 (encG Rk), ?_, ?_, ?_⟩
    · unfold fX5_undo
      rw [if_neg hn0, e1, e3, c_like, bind_eq, encL_0 (by decide)]
    · unfold fX6_undo
      rw [if_neg (by rw [e10]; exact hn0), mv8_0 e4 (by rw [e7, eT]), bind_eq, g_6, t_6, st2_eq, encG_at (by decide)]
    · unfold Rel
      simp (disch := decide) only [st2_ne, st2_eq]
      exact ⟨⟨Rk, u0, d0, Rt, ut, dt, Rk, uk, dk, T3, T4, T8, T9, hIk, rfl, e2, e3, rfl, e5, e6, e7, e8, Or.inr k0, e10, e11⟩, h2, h3, h4⟩
theorem e_tear (h : Rel R1 R2 R3 K T SN SZ F G J) : ∃ r K' G', fX5_tear R1 R2 R3 K T SN SZ F = some (r, K') ∧ fX6_tear G J = some (r, G') ∧ Rel R1 R2 R3 K' T SN SZ F G' J := by
  obtain ⟨⟨R0, u0, d0, Rt, ut, dt, Rk, uk, dk, T3, T4, T8, T9, hI0, e1, e2, e3, e4, e5, e6, e7, e8, e9, e10, e11⟩, h2, h3, h4⟩ := h
  refine ⟨if K = 0 then 0 else 1, 0, st2 G 0 (upd (G 0) 8 0), ?_, ?_, ?_⟩
  · unfold fX5_tear fX5_tear_c12
    by_cases k0 : K = 0
    · rw [if_pos k0, if_pos k0]; rfl
    · rw [if_neg k0, if_neg k0]; rfl
  · unfold fX6_tear fX6_tear_c12
    rw [e10]
    by_cases k0 : K = 0
    · rw [if_pos k0, if_pos k0]; rfl
    · rw [if_neg k0, if_neg k0]; rfl
  · unfold Rel
    simp (disch := decide) only [st2_ne, st2_eq, upd_ne, upd_eq]
    exact ⟨⟨R0, u0, d0, Rt, ut, dt, Rk, uk, dk, T3, T4, T8, T9, hI0, e1, e2, e3, e4, e5, e6, e7, e8, Or.inl rfl, rfl, fun hh => absurd hh (by decide)⟩, h2, h3, h4⟩
theorem m_gales_lp {D : Nat} {R : Rw} (hI : Inv D R) : ∀ m i acc fuel, i + m = 28 → m < fuel → fX6_galesOf_c4 fuel (nI acc) (nI i) (mG G R) J = some (nI (acc + sumM (fun i => if R 1 ≤ R (7 + i) then 1 else 0) i m)) := by
  intro m
  induction m with
  | zero =>
    intro i acc fuel hi hf
    obtain ⟨f, rfl⟩ : ∃ f, fuel = f + 1 := ⟨fuel - 1, by omega⟩
    rw [fX6_galesOf_c4, if_pos (show (28 : Int32) ≤ nI i from i_le (a := 28) (by decide) (by omega) (by omega))]
    rfl
  | succ m ih =>
    intro i acc fuel hi hf
    obtain ⟨f, rfl⟩ : ∃ f, fuel = f + 1 := ⟨fuel - 1, by omega⟩
    have hs := secS_le hI i
    rw [fX6_galesOf_c4, if_neg (show ¬ (28 : Int32) ≤ nI i from i_nle (a := 28) (by decide) (by omega) (by omega)), m_sec hI (by omega), bind_eq]
    unfold fX6_galesOf_c24
    show _ = some (nI (acc + ((if R 1 ≤ R (7 + i) then 1 else 0) + sumM (fun i => if R 1 ≤ R (7 + i) then 1 else 0) (i + 1) m)))
    have e28 : i % 28 = i := Nat.mod_eq_of_lt (by omega)
    by_cases hc : R 1 ≤ R (7 + i)
    · have e : secS R i = R (7 + i) - R 1 + 1 := by unfold secS; rw [e28, if_pos hc]
      rw [if_neg (show ¬ nI (secS R i) ≤ 0 from i_nle (b := 0) (by omega) (by decide) (by omega)), if_pos hc, letb_eq, letb_eq, show nI acc + (1 : Int32) = nI (acc + 1) from n_add acc 1, show nI i + (1 : Int32) = nI (i + 1) from n_add i 1, ih (i + 1) _ f (by omega) (by omega), Nat.add_assoc]
    · have e : secS R i = 0 := by unfold secS; rw [e28, if_neg hc]
      rw [e, if_pos (show nI 0 ≤ (0 : Int32) by decide), if_neg hc, letb_eq, letb_eq, show nI acc + (0 : Int32) = nI (acc + 0) from n_add acc 0, show nI i + (1 : Int32) = nI (i + 1) from n_add i 1, ih (i + 1) _ f (by omega) (by omega), Nat.add_assoc]
theorem m_gales {D : Nat} {R : Rw} (hI : Inv D R) : fX6_galesOf (mG G R) J = some (nI (galS R)) := by
  unfold fX6_galesOf galS
  rw [show (0 : Int32) = nI 0 from rfl, m_gales_lp hI 28 0 0 FU (by omega) (by rw [FU_eq]; omega), Nat.zero_add]
theorem Rel.tape (h : Rel R1 R2 R3 K T SN SZ F G J) : T 0 0 = G 0 2 := by
  obtain ⟨h1, ⟨tl, ht, e1, e2, e3, e4⟩, h3, h4⟩ := h
  rw [e1, e2]
theorem e_count (h : Rel R1 R2 R3 K T SN SZ F G J) (x1 : Int32) : ∃ r F' G', fX5_count x1 R1 R2 R3 K T SN SZ F = some (r, F') ∧ fX6_count x1 G J = some (r, G') ∧ Rel R1 R2 R3 K T SN SZ F' G' J := by
  obtain ⟨R, u, d, hI, rfl, hG⟩ := h.real
  have h6 := hI.many
  by_cases w0 : x1 = 0
  · subst w0
    refine ⟨nI (R 6), F, G, ?_, ?_, h⟩
    · unfold fX5_count
      rw [if_pos rfl, encL_0 (by decide)]
    · unfold fX6_count
      rw [if_pos rfl, g_6, t_6, hG, encG_at (by decide)]
  by_cases w1 : x1 = 1
  · subst w1
    refine ⟨T 0 0, F, G, ?_, ?_, h⟩
    · unfold fX5_count
      rw [if_neg w0, if_pos rfl]
    · unfold fX6_count
      rw [if_neg w0, if_pos rfl, h.tape]
  by_cases w2 : x1 = 2
  · subst w2
    refine ⟨nI (cntS R 1), F, G, ?_, ?_, h⟩
    · have ec : fX1_countStanding (1 : Int32) (encL R u d) = some (nI (cntS R 1)) := c_cnt hI (x := 1) (by omega)
      unfold fX5_count
      rw [if_neg w0, if_neg w1, if_pos rfl, ec, bind_eq]
    · have q : fX6_count 2 (mG G R) J = some (nI (cntS R 1), mG G R) := by
        unfold fX6_count
        rw [if_neg w0, if_neg w1, if_pos rfl, m_on hI, bind_eq, m_bits_on hI, bind_eq]
      rw [mG_self hG] at q; exact q
  by_cases w3 : x1 = 3
  · subst w3
    refine ⟨nI (galS R), F, G, ?_, ?_, h⟩
    · unfold fX5_count
      rw [if_neg w0, if_neg w1, if_neg w2, if_pos rfl, c_galeDays hI, bind_eq]
    · have q : fX6_count 3 (mG G R) J = some (nI (galS R), mG G R) := by
        unfold fX6_count
        rw [if_neg w0, if_neg w1, if_neg w2, if_pos rfl, m_gales hI, bind_eq]
      rw [mG_self hG] at q; exact q
  refine ⟨(-1000000001 : Int32), _, _, ?_, ?_, h.find 0⟩
  · simp only [fX5_count, if_neg w0, if_neg w1, if_neg w2, if_neg w3, bind_eq, bind2_eq, ifn10, reduceIte, c_tell0]
  · have q : fX6_count x1 (mG G R) J = some ((-1000000001 : Int32), st2 (mG G R) 2 (upd (mG G R 2) 0 (mG G R 2 0 + 1))) := by
      simp only [fX6_count, if_neg w0, if_neg w1, if_neg w2, if_neg w3, bind_eq, bind2_eq, ifn10, reduceIte, m_find0]
    rw [mG_self hG] at q; exact q
def sumI (f : M1) : Nat → Nat → Int32 → Int32
  | _, 0, a => a
  | i, m + 1, a => sumI f (i + 1) m (a + f i)
theorem c_stat_lp : ∀ m i fuel (acc : Int32), i + m = 7 → m < fuel → fX5_status_c19 fuel acc 7 (nI i) R1 R2 R3 K T SN SZ F = some (sumI F i m acc, F) := by
  intro m
  induction m with
  | zero =>
    intro i fuel acc hi hf
    obtain ⟨f, rfl⟩ : ∃ f, fuel = f + 1 := ⟨fuel - 1, by omega⟩
    rw [fX5_status_c19, if_pos (show (7 : Int32) ≤ nI i from i_le (a := 7) (by decide) (by omega) (by omega))]
    rfl
  | succ m ih =>
    intro i fuel acc hi hf
    obtain ⟨f, rfl⟩ : ∃ f, fuel = f + 1 := ⟨fuel - 1, by omega⟩
    rw [fX5_status_c19, if_neg (show ¬ (7 : Int32) ≤ nI i from i_nle (a := 7) (by decide) (by omega) (by omega)), g_inb (by omega) (by omega), n_cl (by omega), letb_eq, letb_eq, letb_eq, show nI i + (1 : Int32) = nI (i + 1) from n_add i 1, ih (i + 1) f _ (by omega) (by omega)]
    rfl
theorem m_stat_lp (y : Int32) : ∀ m i fuel (acc : Int32), i + m = 7 → m < fuel → fX6_status_c21 fuel y acc (nI i) G J = fX6_status_c42 y (sumI (G 2) i m acc) G J := by
  intro m
  induction m with
  | zero =>
    intro i fuel acc hi hf
    obtain ⟨f, rfl⟩ : ∃ f, fuel = f + 1 := ⟨fuel - 1, by omega⟩
    rw [fX6_status_c21, if_pos (show (7 : Int32) ≤ nI i from i_le (a := 7) (by decide) (by omega) (by omega))]
    rfl
  | succ m ih =>
    intro i fuel acc hi hf
    obtain ⟨f, rfl⟩ : ∃ f, fuel = f + 1 := ⟨fuel - 1, by omega⟩
    rw [fX6_status_c21, if_neg (show ¬ (7 : Int32) ≤ nI i from i_nle (a := 7) (by decide) (by omega) (by omega)), g_inb (by omega) (by omega), n_cl (by omega), letb_eq, letb_eq, show nI i + (1 : Int32) = nI (i + 1) from n_add i 1, ih (i + 1) f _ (by omega) (by omega)]
    rfl
theorem e_status (h : Rel R1 R2 R3 K T SN SZ F G J) (x1 : Int32) : ∃ r F' G', fX5_status x1 R1 R2 R3 K T SN SZ F = some (r, F') ∧ fX6_status x1 G J = some (r, G') ∧ Rel R1 R2 R3 K T SN SZ F' G' J := by
  obtain ⟨R, u, d, hI, rfl, hG⟩ := h.real
  have h6 := hI.many
  have h4 : F = G 2 := h.2.2.2
  by_cases wm : x1 = -1
  · subst wm
    refine ⟨sumI F 0 7 0, F, G, ?_, ?_, h⟩
    · unfold fX5_status
      rw [if_pos rfl]
      exact c_stat_lp 7 0 FU 0 (by omega) (by rw [FU_eq]; omega)
    · unfold fX6_status
      have e := m_stat_lp (G := G) (J := J) (-1) 7 0 FU 0 (by omega) (by rw [FU_eq]; omega)
      rw [in_true (by decide), bind_eq, ifn10, show (0 : Int32) = nI 0 from rfl]
      rw [show nI 0 = (0 : Int32) from rfl] at *
      refine e.trans ?_
      unfold fX6_status_c42 fX6_status_c64
      rw [if_neg (by decide), h4]
  by_cases hp : (0 : Int32) ≤ x1 ∧ x1 ≤ 6
  · obtain ⟨n, -, hn2, rfl⟩ := rng (a := 0) (b := 6) (by decide) (by decide) hp
    refine ⟨F n, F, G, ?_, ?_, h⟩
    · unfold fX5_status fX5_status_c70
      rw [if_neg wm, within_true hp, bind_eq, ifn10, g_inb (by omega) (by omega), n_cl (by omega)]
    · unfold fX6_status
      have e := m_stat_lp (G := G) (J := J) (nI n) 7 0 FU 0 (by omega) (by rw [FU_eq]; omega)
      have h2 : (-1 : Int32) ≤ nI n ∧ nI n ≤ 6 := ⟨Int32.le_trans (by decide) hp.1, hp.2⟩
      rw [in_true h2, bind_eq, ifn10]
      refine e.trans ?_
      unfold fX6_status_c42 fX6_status_c63 fX6_status_c64
      rw [if_pos hp.1, if_pos hp.1, g_inb (by omega) (by omega), n_cl (by omega), h4]
  · have hq : ¬ ((-1 : Int32) ≤ x1 ∧ x1 ≤ 6) := by
      intro hh
      have h1 := hh.1
      have h2 := hh.2
      rw [fa_le, show (-1 : Int32).toInt = -1 from rfl] at h1
      have hneg : x1.toInt = -1 ∨ 0 ≤ x1.toInt := by omega
      rcases hneg with hx | hx
      · exact wm (Int32.toInt_inj.mp (by rw [hx]; rfl))
      · exact hp ⟨by rw [fa_le, show (0 : Int32).toInt = 0 from rfl]; exact hx, h2⟩
    refine ⟨(-1000000001 : Int32), _, _, ?_, ?_, h.find 0⟩
    · simp only [fX5_status, fX5_status_c70, if_neg wm, within_false hp, bind_eq, bind2_eq, ifn10, reduceIte, c_tell0]
    · have q : fX6_status x1 (mG G R) J = some ((-1000000001 : Int32), st2 (mG G R) 2 (upd (mG G R 2) 0 (mG G R 2 0 + 1))) := by
        simp only [fX6_status, in_false hq, bind_eq, bind2_eq, ifn10, reduceIte, m_find0]
      rw [mG_self hG] at q; exact q
end C6
