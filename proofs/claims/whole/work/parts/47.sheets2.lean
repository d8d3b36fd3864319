section SI
variable {R1 R2 R3 : M2} {K : Int32} {T : M2} {SN : J2} {SZ : M2} {F : M1} {G : M2} {J : J2}
theorem fill_lp : ∀ m i fuel {B : J1}, i + m = 40 → m < fuel → fJ7_fill_d0a16_c6 fuel 0 (nI i) 40 B = some (fun j => if i ≤ j ∧ j < 40 then 0 else B j) := by
  intro m
  induction m with
  | zero =>
    intro i fuel B hi hf
    obtain ⟨f, rfl⟩ : ∃ f, fuel = f + 1 := ⟨fuel - 1, by omega⟩
    rw [fJ7_fill_d0a16_c6, if_pos (show (40 : Int32) ≤ nI i from i_le (a := 40) (by decide) (by omega) (by omega))]
    unfold fJ7_fill_d0a16_c22
    congr 1
    funext j
    rw [if_neg (by omega)]
  | succ m ih =>
    intro i fuel B hi hf
    obtain ⟨f, rfl⟩ : ∃ f, fuel = f + 1 := ⟨fuel - 1, by omega⟩
    rw [fJ7_fill_d0a16_c6, if_neg (show ¬ (40 : Int32) ≤ nI i from i_nle (a := 40) (by decide) (by omega) (by omega)), g_inb (by omega) (by omega), n_cl (by omega), letb_eq, letb_eq, show nI i + (1 : Int32) = nI (i + 1) from n_add i 1, ih (i + 1) f (by omega) (by omega)]
    congr 1
    funext j
    unfold vp_updL
    by_cases e : j = i
    · rw [if_neg (by omega), if_pos e, if_pos (by omega)]
    · by_cases e2 : i + 1 ≤ j ∧ j < 40
      · rw [if_pos e2, if_pos (by omega)]
      · rw [if_neg e2, if_neg e, if_neg (by omega)]
theorem c_fill (B : J1) : fJ7_fill_d0a16 0 B = some (fun j => if 0 ≤ j ∧ j < 40 then 0 else B j) := fill_lp 40 0 FU (by omega) (by rw [FU_eq]; omega)
theorem m_clear {k : Nat} (hk : k < 4) : ∀ m i fuel {J : J2}, i + m = 40 → m < fuel → fX6_sheet_c85 fuel (nI k) (nI i) G J = some (G 7 k, G, st2 J 1 (fun j => if 40 * k + i ≤ j ∧ j < 40 * k + 40 then 0 else J 1 j)) := by
  intro m
  induction m with
  | zero =>
    intro i fuel J hi hf
    obtain ⟨f, rfl⟩ : ∃ f, fuel = f + 1 := ⟨fuel - 1, by omega⟩
    rw [fX6_sheet_c85, if_pos (show (40 : Int32) ≤ nI i from i_le (a := 40) (by decide) (by omega) (by omega))]
    unfold fX6_sheet_c111
    rw [g_inb (by omega) (by omega), n_cl (by omega)]
    have e : (fun j => if 40 * k + i ≤ j ∧ j < 40 * k + 40 then 0 else J 1 j) = J 1 := by
      funext j
      rw [if_neg (by omega)]
    rw [e, st2_same]
  | succ m ih =>
    intro i fuel J hi hf
    obtain ⟨f, rfl⟩ : ∃ f, fuel = f + 1 := ⟨fuel - 1, by omega⟩
    rw [fX6_sheet_c85, if_neg (show ¬ (40 : Int32) ≤ nI i from i_nle (a := 40) (by decide) (by omega) (by omega)), n_40k, g_inb (by omega) (by omega), n_cl (by omega), letb_eq, letb_eq, show nI i + (1 : Int32) = nI (i + 1) from n_add i 1, ih (i + 1) f (by omega) (by omega), st2_st2, st2_eq]
    have e : (fun j => if 40 * k + (i + 1) ≤ j ∧ j < 40 * k + 40 then 0 else vp_updL (J 1) (40 * k + i) 0 j) = (fun j => if 40 * k + i ≤ j ∧ j < 40 * k + 40 then 0 else J 1 j) := by
      funext j
      unfold vp_updL
      by_cases e : j = 40 * k + i
      · rw [if_neg (by omega), if_pos e, if_pos (by omega)]
      · by_cases e2 : 40 * k + (i + 1) ≤ j ∧ j < 40 * k + 40
        · rw [if_pos e2, if_pos (by omega)]
        · rw [if_neg e2, if_neg e, if_neg (by omega)]
    rw [e]
theorem Rel.lay (h : Rel R1 R2 R3 K T SN SZ F G J) {k : Nat} (hk : k < 4) {w : Int32} (hw : w = 0 ∨ w = 8 ∨ w = 16 ∨ w = 64) {z : Nat} (hz : z ≤ 40) (h0 : w = 0 → z = 0) : Rel R1 R2 R3 K T (st2 SN k (fun j => if 0 ≤ j ∧ j < 40 then 0 else SN k j)) (st2 SZ k (upd (upd (SZ k) 0 w) 1 (nI z))) F (st2 (st2 G 6 (upd (G 6) k w)) 7 (upd (G 7) k (nI z))) (st2 J 1 (fun j => if 40 * k + 0 ≤ j ∧ j < 40 * k + 40 then 0 else J 1 j)) := by
  obtain ⟨h1, h2, ⟨h3, h5⟩, h4⟩ := h
  unfold Rel
  simp (disch := decide) only [st2_ne, st2_eq]
  refine ⟨h1, h2, ⟨?_, ?_⟩, h4⟩
  · intro k' hk'
    by_cases e : k' = k
    · subst e
      rw [st2_eq, upd_ne _ _ (show 0 ≠ 1 by decide), upd_eq, upd_eq, upd_eq, upd_eq]
      exact ⟨rfl, rfl, hw, z, hz, rfl, h0⟩
    · rw [st2_ne _ _ e, upd_ne _ _ e, upd_ne _ _ e]
      exact h3 k' hk'
  · intro k' i' hk' hi'
    by_cases e : k' = k
    · subst e
      rw [st2_eq, if_pos (by omega)]
      show (0 : Int64) = if 40 * k' + 0 ≤ 40 * k' + i' ∧ 40 * k' + i' < 40 * k' + 40 then 0 else J 1 (40 * k' + i')
      rw [if_pos (by omega)]
    · rw [st2_ne _ _ e]
      show SN k' i' = if 40 * k + 0 ≤ 40 * k' + i' ∧ 40 * k' + i' < 40 * k + 40 then 0 else J 1 (40 * k' + i')
      rw [if_neg (by omega)]
      exact h5 k' i' hk' hi'
theorem sheet_in (h : Rel R1 R2 R3 K T SN SZ F G J) {k : Nat} (hk : k < 4) {w x3 : Int32} (hw : w = 0 ∨ w = 8 ∨ w = 16 ∨ w = 64) : ∃ r SN' SZ' F' G' J', (if 0 ≤ x3 then (if x3 ≤ 40 then bind2 (fX2_layOut w x3 (SN k) (SZ k)) (fun B_32 Z_33 => letb (st2 SN k B_32) (fun SN_35 => letb (st2 SZ k Z_33) (fun SZ_36 => some (SZ_36 k 1, SN_35, SZ_36, F)))) else bind2 (fX5_tell (-1000000001) R1 R2 R3 K T SN SZ F) (fun r_37 F_38 => some (r_37, SN, SZ, F_38))) else bind2 (fX5_tell (-1000000007) R1 R2 R3 K T SN SZ F) (fun r_40 F_41 => some (r_40, SN, SZ, F_41))) = some (r, SN', SZ', F') ∧ fX6_sheet_c36 (nI k) w x3 G J = some (r, G', J') ∧ Rel R1 R2 R3 K T SN' SZ' F' G' J' := by
  unfold fX6_sheet_c36
  by_cases a : (0 : Int32) ≤ x3
  · rw [if_pos a, if_pos a]
    by_cases b : x3 ≤ 40
    · obtain ⟨z, -, hz, rfl⟩ := rng (a := 0) (b := 40) (by decide) (by decide) ⟨a, b⟩
      rw [if_pos b, if_pos b, g_inb (by omega) (by omega), n_cl (by omega), letb_eq]
      unfold fX2_layOut fX2_layOut_c23 fX6_sheet_c81
      rw [c_fill, bind_eq, letb_eq]
      by_cases w0 : w = 0
      · rw [if_pos w0, if_pos w0, letb_eq, bind2_eq, letb_eq, letb_eq, g_inb (by omega) (by omega), n_cl (by omega), letb_eq, show FU = FU from rfl]
        have q := m_clear (G := st2 (st2 G 6 (upd (G 6) k w)) 7 (upd (st2 G 6 (upd (G 6) k w) 7) k 0)) (k := k) hk 40 0 FU (J := J) (by omega) (by rw [FU_eq]; omega)
        refine ⟨_, _, _, _, _, _, rfl, ?_, h.lay hk hw (z := 0) (by omega) (fun _ => rfl)⟩
        rw [st2_ne _ _ (show 7 ≠ 6 by decide), st2_eq, upd_eq] at q
        rw [st2_ne _ _ (show 7 ≠ 6 by decide), st2_eq, upd_eq]
        exact q
      · rw [if_neg w0, if_neg w0, letb_eq, bind2_eq, letb_eq, letb_eq, g_inb (by omega) (by omega), n_cl (by omega), letb_eq, show FU = FU from rfl]
        have q := m_clear (G := st2 (st2 G 6 (upd (G 6) k w)) 7 (upd (st2 G 6 (upd (G 6) k w) 7) k (nI z))) (k := k) hk 40 0 FU (J := J) (by omega) (by rw [FU_eq]; omega)
        refine ⟨_, _, _, _, _, _, rfl, ?_, h.lay hk hw (z := z) hz (fun e => absurd e w0)⟩
        rw [st2_ne _ _ (show 7 ≠ 6 by decide), st2_eq, upd_eq] at q
        rw [st2_ne _ _ (show 7 ≠ 6 by decide), st2_eq, upd_eq]
        exact q
    · rw [if_neg b, if_neg b, c_tell0, m_find0, bind2_eq, bind2_eq]
      exact ⟨_, _, _, _, _, _, rfl, rfl, h.find 0⟩
  · rw [if_neg a, if_neg a, c_tell6, m_find6, bind2_eq, bind2_eq]
    exact ⟨_, _, _, _, _, _, rfl, rfl, h.find 6⟩
theorem e_sheet (h : Rel R1 R2 R3 K T SN SZ F G J) (x1 x2 x3 : Int32) : ∃ r SN' SZ' F' G' J', fX5_sheet x1 x2 x3 R1 R2 R3 K T SN SZ F = some (r, SN', SZ', F') ∧ fX6_sheet x1 x2 x3 G J = some (r, G', J') ∧ Rel R1 R2 R3 K T SN' SZ' F' G' J' := by
  unfold fX5_sheet fX6_sheet
  by_cases hs : (0 : Int32) ≤ x1 ∧ x1 ≤ 3
  · obtain ⟨k, -, hk3, rfl⟩ := rng (a := 0) (b := 3) (by decide) (by decide) hs
    rw [if_pos (n_inb (by omega) (by omega)), letb_eq, n_cl (by omega), m_shY hs, bind_eq, ifn10]
    by_cases w0 : x2 = 0
    · have e : fX2_isWidth x2 = some 1 := by unfold fX2_isWidth; rw [if_pos w0]; rfl
      rw [e, bind_eq, ifn10, if_pos w0]
      exact sheet_in h (by omega) (Or.inl w0)
    by_cases w8 : x2 = 8
    · have e : fX2_isWidth x2 = some 1 := by unfold fX2_isWidth; rw [if_neg w0, if_pos w8]; rfl
      rw [e, bind_eq, ifn10, if_neg w0, if_pos w8]
      exact sheet_in h (by omega) (Or.inr (Or.inl w8))
    by_cases w16 : x2 = 16
    · have e : fX2_isWidth x2 = some 1 := by unfold fX2_isWidth; rw [if_neg w0, if_neg w8, if_pos w16]; rfl
      rw [e, bind_eq, ifn10, if_neg w0, if_neg w8, if_pos w16]
      exact sheet_in h (by omega) (Or.inr (Or.inr (Or.inl w16)))
    by_cases w64 : x2 = 64
    · have e : fX2_isWidth x2 = some 1 := by unfold fX2_isWidth; rw [if_neg w0, if_neg w8, if_neg w16, if_pos w64]; rfl
      rw [e, bind_eq, ifn10, if_neg w0, if_neg w8, if_neg w16, if_pos w64]
      exact sheet_in h (by omega) (Or.inr (Or.inr (Or.inr w64)))
    have e : fX2_isWidth x2 = some 0 := by unfold fX2_isWidth; rw [if_neg w0, if_neg w8, if_neg w16, if_neg w64]; rfl
    rw [e, bind_eq, ifp00, if_neg w0, if_neg w8, if_neg w16, if_neg w64]
    unfold fX5_sheet_c19 fX6_sheet_c29
    rw [c_tell0, m_find0, bind2_eq, bind2_eq]
    exact ⟨_, _, _, _, _, _, rfl, rfl, h.find 0⟩
  · rw [if_neg (by rw [sh_no hs]; decide), m_shN hs, bind_eq, ifp00]
    unfold fX5_sheet_c19 fX6_sheet_c29
    rw [c_tell0, m_find0, bind2_eq, bind2_eq]
    exact ⟨_, _, _, _, _, _, rfl, rfl, h.find 0⟩
theorem tg {R S : Rw} {c w : Int32} {a : Nat} (h0 : a ≠ 0) (h1 : a ≠ 1) (h3 : a ≠ 3) : mG (cw (tr G R) c w) S a = G a := by
  rw [mG_a h1, cw_a _ _ _ h0]
  unfold tr
  rw [st2_ne _ _ h3]
theorem book_lp {R : Rw} (hG : G 1 = encG R) {k z : Nat} (hk : k < 4) (hz : z ≤ 40) (h7 : G 7 k = nI z) (h0 : ¬ G 6 k = 0) : ∀ m i fuel {D : Nat} {S : Rw} {R2 : M2} {SN : J2} {J : J2} {c w ut dt : Int32}, Rel R1 R2 R3 K T SN SZ F G J → i + m = z → m < fuel → Inv D S → D + m < 99998 → ∃ r R2' SN' G' J', fX5_book_c37 fuel k (nI i) R1 (encL S ut dt) R3 K T SN SZ F = some (r, R2', SN', F) ∧ fX6_book_c27 fuel (nI k) (nI i) (mG (cw (tr G R) c w) S) J = some (r, G', J') ∧ Rel R1 R2' R3 K T SN' SZ F G' J' := by
  intro m
  induction m with
  | zero =>
    intro i fuel D S R2 SN J c w ut dt h hi hf hI hD
    obtain ⟨f, rfl⟩ : ∃ f, fuel = f + 1 := ⟨fuel - 1, by omega⟩
    obtain ⟨s0, s1, s2, -⟩ := h.sh (k := k) hk
    have hg : nI z ≤ nI i := i_le (by omega) (by omega) (by omega)
    refine ⟨nI z, _, _, _, _, ?_, ?_, h.ask hG S ut dt c w⟩
    · rw [fX5_book_c37, s1, h7, if_pos hg]
      unfold fX5_book_c71
      rw [s1, h7]
    · rw [fX6_book_c27, g_inb (by omega) (by omega), n_cl (by omega), tg (by decide) (by decide) (by decide), h7, if_pos hg]
      unfold fX6_book_c74
      rw [m_back, bind_eq, g_inb (by omega) (by omega), n_cl (by omega), tg (by decide) (by decide) (by decide), h7]
      rfl
  | succ m ih =>
    intro i fuel D S R2 SN J c w ut dt h hi hf hI hD
    obtain ⟨f, rfl⟩ : ∃ f, fuel = f + 1 := ⟨fuel - 1, by omega⟩
    obtain ⟨s0, s1, s2, -⟩ := h.sh (k := k) hk
    have hg : ¬ nI z ≤ nI i := i_nle (by omega) (by omega) (by omega)
    obtain ⟨v, hv⟩ := nar_ex (G 6 k) (nI (S 2)).toInt64
    obtain ⟨r, R2', SN', G', J', q1, q2, q3⟩ := ih (i + 1) f (D := D + 1) (S := (dayS S).1) (c := eB (dayS S).2.1) (w := eB (dayS S).2.2) (ut := upI (dayS S)) (dt := eB (dayS S).2.2) (h.put hk (i := i) (by omega) v) (by omega) (by omega) (day_inv hI (by omega)) (by omega)
    refine ⟨r, R2', SN', G', J', ?_, ?_, q3⟩
    · rw [fX5_book_c37, s1, h7, if_neg hg, encL_0 (by decide), c_put (k := k) (z := z) hz (by omega) (w := v) (by rw [s1, h7]) (by rw [s0]; exact h0) (by rw [s0]; exact s2) (by rw [s0]; exact hv), bind_eq, letb_eq, c_day hI (by omega), bind_eq, letb_eq, show nI i + (1 : Int32) = nI (i + 1) from n_add i 1]
      exact q1
    · rw [fX6_book_c27, g_inb (by omega) (by omega), n_cl (by omega), tg (by decide) (by decide) (by decide), h7, if_neg hg, g_inb (by omega) (by omega), show ∀ k : Option (Int32 × M2 × J2), grd (inb (2 : Int32) 75) k = k from fun _ => rfl, show (2 : Int32).toNatClampNeg = 2 from rfl, tg (by decide) (by decide) (by decide), mG_r (by decide), hv, bind_eq, n_40k, g_inb (by omega) (by omega), n_cl (by omega), letb_eq, m_day hI (by omega), bind_eq, letb_eq, cw_cw, show nI i + (1 : Int32) = nI (i + 1) from n_add i 1]
      exact q2
theorem m_badY {k : Nat} (hk : k < 4) (h0 : ¬ G 6 k = 0) : fX6_badSheet (nI k) G J = some 0 := by
  unfold fX6_badSheet fX6_badSheet_c27
  rw [m_shY (rng_of (a := 0) (b := 3) (by decide) (by decide) (by omega) (by omega)), bind_eq, ifn10, g_inb (by omega) (by omega), n_cl (by omega), if_neg h0]
theorem m_badM {k : Nat} (hk : k < 4) (h0 : G 6 k = 0) : fX6_badSheet (nI k) G J = some (-1000000006) := by
  unfold fX6_badSheet fX6_badSheet_c27
  rw [m_shY (rng_of (a := 0) (b := 3) (by decide) (by decide) (by omega) (by omega)), bind_eq, ifn10, g_inb (by omega) (by omega), n_cl (by omega), if_pos h0]
theorem m_badN {x : Int32} (h : ¬ ((0 : Int32) ≤ x ∧ x ≤ 3)) : fX6_badSheet x G J = some (-1000000001) := by
  unfold fX6_badSheet fX6_badSheet_c27
  rw [m_shN h, bind_eq, ifp00]
theorem e_book (h : Rel R1 R2 R3 K T SN SZ F G J) (x1 : Int32) : ∃ r R2' SN' F' G' J', fX5_book x1 R1 R2 R3 K T SN SZ F = some (r, R2', SN', F') ∧ fX6_book x1 G J = some (r, G', J') ∧ Rel R1 R2' R3 K T SN' SZ F' G' J' := by
  obtain ⟨R, u, d, hI, rfl, hG⟩ := h.real
  obtain ⟨Rt, ut, dt, rfl⟩ := h.trial
  obtain ⟨c, w, hc⟩ := m_tryc h (R := R)
  rw [mG_self hG] at hc
  unfold fX5_book fX6_book
  by_cases hs : (0 : Int32) ≤ x1 ∧ x1 ≤ 3
  · obtain ⟨k, -, hk3, rfl⟩ := rng (a := 0) (b := 3) (by decide) (by decide) hs
    obtain ⟨s0, s1, s2, z, hz, s3, s4⟩ := h.sh (k := k) (by omega)
    rw [if_pos (n_inb (by omega) (by omega)), letb_eq, n_cl (by omega)]
    by_cases h0 : G 6 k = 0
    · rw [c_missY (by rw [s0]; exact h0), bind_eq, ifn10, m_badM (by omega) h0, bind_eq, if_neg (show ¬ (-1000000006 : Int32) = 0 by decide), c_tell5, m_find5, bind2_eq, bind2_eq]
      exact ⟨_, _, _, _, _, _, rfl, rfl, h.find 5⟩
    · obtain ⟨r, R2', SN', G', J', q1, q2, q3⟩ := book_lp hG (k := k) (z := z) (by omega) hz s3 h0 z 0 FU (S := R) (c := c) (w := w) (ut := ut) (dt := dt) h (by omega) (by rw [FU_eq]; omega) hI (by omega)
      rw [c_missN (by rw [s0]; exact h0), bind_eq, ifp00, c_start, bind_eq, m_badY (by omega) h0, bind_eq, ifp00, hc, bind_eq]
      exact ⟨r, R2', SN', F, G', J', q1, q2, q3⟩
  · rw [if_neg (by rw [sh_no hs]; decide), m_badN hs, bind_eq, if_neg (show ¬ (-1000000001 : Int32) = 0 by decide), c_tell0, m_find0, bind2_eq, bind2_eq]
    exact ⟨_, _, _, _, _, _, rfl, rfl, h.find 0⟩
end SI
