section C5
variable {R1 R2 R3 : M2} {K : Int32} {T : M2} {SN : J2} {SZ : M2} {F : M1} {G : M2} {J : J2}
theorem dark_lp {R1 : M2} (h : Rel R1 R2 R3 K T SN SZ F G J) {R : Rw} {u d : Int32} (hR : R1 = encL R u d) (hd : R 5 ≤ 9999) (hG : G 1 = encG R) : ∀ m i fuel {D : Nat} {S : Rw} {c w ut dt : Int32}, i + m = 200 → m + 1 < fuel → Inv D S → D + m < 99998 → S 5 = R 5 → ∃ r R2' F' G', fX5_dark_c6 fuel (nI (i + 1)) R1 (encL S ut dt) R3 K T SN SZ F = some (r, R2', F') ∧ fX6_dark_c11 fuel (nI i) (mG (cw (tr G R) c w) S) J = some (r, G') ∧ Rel R1 R2' R3 K T SN SZ F' G' J := by
  intro m
  have m0 : ∀ (i fuel : Nat) (S : Rw) (c w : Int32), fX6_dark_c11 (fuel + 1) (nI i) (mG (cw (tr G R) c w) S) J = (if (200 : Int32) < nI i then fX6_dark_c43 (nI i) (mG (cw (tr G R) c w) S) J else if nI (S 5) = nI (R 5) then (fX6_oneDay (mG (cw (tr G R) c w) S) J).bind (fun G' => letb (nI i + 1) (fun v => fX6_dark_c11 fuel v G' J)) else fX6_dark_c43 (nI i) (mG (cw (tr G R) c w) S) J) := by
    intro i fuel S c w
    rw [fX6_dark_c11, show ∀ k : Option (Int32 × M2), grd (inb (5 : Int32) 75) k = k from fun _ => rfl, show ∀ k : Option (Int32 × M2), grd (inb (5 : Int32) 75) k = k from fun _ => rfl, show (5 : Int32).toNatClampNeg = 5 from rfl, mG_r (by decide), mG_a (by decide), cw_a _ _ _ (by decide), tr_3, encG_at (by decide)]
  induction m with
  | zero =>
    intro i fuel D S c w ut dt hi hf hI hD h5
    obtain ⟨n, rfl⟩ : ∃ n, fuel = n + 1 + 1 := ⟨fuel - 2, by omega⟩
    have hgt : (200 : Int32) < nI (i + 1) := i_lt (a := 200) (by decide) (by omega) (by omega)
    have hgi : ¬ (200 : Int32) < nI i := i_nlt (a := 200) (by decide) (by omega) (by omega)
    have hle : ¬ nI (i + 1) ≤ (200 : Int32) := i_nle (b := 200) (by omega) (by decide) (by omega)
    refine ⟨(-1000000004 : Int32), _, _, _, ?_, ?_, (h.ask hG S ut dt (eB (dayS S).2.1) (eB (dayS S).2.2)).find 3⟩
    · rw [fX5_dark_c6, if_pos hgt]
      unfold fX5_dark_c45
      rw [c_tell3, bind2_eq]
    · rw [m0, if_neg hgi, if_pos (show nI (S 5) = nI (R 5) by rw [h5]), m_day hI (by omega), bind_eq, letb_eq, cw_cw, show nI i + (1 : Int32) = nI (i + 1) from n_add i 1, m0, if_pos hgt]
      unfold fX6_dark_c43 fX6_dark_c69
      rw [m_back, bind_eq, if_neg hle, m_find3, bind2_eq]
      rfl
  | succ m ih =>
    intro i fuel D S c w ut dt hi hf hI hD h5
    obtain ⟨n, rfl⟩ : ∃ n, fuel = n + 1 + 1 := ⟨fuel - 2, by omega⟩
    have hgt : ¬ (200 : Int32) < nI (i + 1) := i_nlt (a := 200) (by decide) (by omega) (by omega)
    have hgi : ¬ (200 : Int32) < nI i := i_nlt (a := 200) (by decide) (by omega) (by omega)
    have hle : nI (i + 1) ≤ (200 : Int32) := i_le (b := 200) (by omega) (by decide) (by omega)
    have hmo := dayS_5 (R := S) (by omega)
    have hdd := (day_inv hI (by omega)).dark
    rw [fX5_dark_c6, if_neg hgt, c_day hI (by omega), bind_eq, encL_0 (by decide), hR, encL_0 (by decide), ← hR]
    rw [m0, if_neg hgi, if_pos (show nI (S 5) = nI (R 5) by rw [h5]), m_day hI (by omega), bind_eq, letb_eq, letb_eq, cw_cw, show nI i + (1 : Int32) = nI (i + 1) from n_add i 1]
    by_cases hq : (dayS S).1 5 = R 5
    · obtain ⟨r, R2', F', G', q1, q2, q3⟩ := ih (i + 1) (n + 1) (D := D + 1) (S := (dayS S).1) (c := eB (dayS S).2.1) (w := eB (dayS S).2.2) (ut := upI (dayS S)) (dt := eB (dayS S).2.2) (by omega) (by omega) (day_inv hI (by omega)) (by omega) hq
      refine ⟨r, R2', F', G', ?_, q2, q3⟩
      rw [if_pos (show nI ((dayS S).1 5) ≤ nI (R 5) from i_le (by omega) (by omega) (by omega)), show nI (i + 1) + (1 : Int32) = nI (i + 1 + 1) from n_add (i + 1) 1]
      exact q1
    · refine ⟨nI (i + 1), _, _, mG (cw (tr G R) (eB (dayS S).2.1) (eB (dayS S).2.2)) R, ?_, ?_, h.ask hG (dayS S).1 (upI (dayS S)) (eB (dayS S).2.2) _ _⟩
      · rw [if_neg (show ¬ nI ((dayS S).1 5) ≤ nI (R 5) from i_nle (by omega) (by omega) (by omega))]
        rfl
      · rw [m0, if_neg hgt, if_neg (i_ne (by omega) (by omega) hq)]
        unfold fX6_dark_c43 fX6_dark_c69
        rw [m_back, bind_eq, if_pos hle]
theorem e_dark (h : Rel R1 R2 R3 K T SN SZ F G J) : ∃ r R2' F' G', fX5_dark  R1 R2 R3 K T SN SZ F = some (r, R2', F') ∧ fX6_dark  G J = some (r, G') ∧ Rel R1 R2' R3 K T SN SZ F' G' J := by
  obtain ⟨R, u, d, hI, rfl, hG⟩ := h.real
  have h6 := hI.many
  obtain ⟨Rt, ut, dt, rfl⟩ := h.trial
  obtain ⟨c, w, hc⟩ := m_tryc h (R := R)
  obtain ⟨r, R2', F', G', q1, q2, q3⟩ := dark_lp h rfl hI.dark hG 200 0 FU (D := 9999) (S := R) (c := c) (w := w) (ut := ut) (dt := dt) (by omega) (by rw [FU_eq]; omega) hI (by omega) rfl
  refine ⟨r, R2', F', G', ?_, ?_, q3⟩
  · unfold fX5_dark
    rw [c_start, bind_eq]
    exact q1
  · have q : fX6_dark (mG G R) J = some (r, G') := by
      unfold fX6_dark
      rw [hc, bind_eq]
      exact q2
    rw [mG_self hG] at q; exact q
def hmB (c w x y : Int32) : Bool := (decide (c = x) && decide (w = y)) || (decide (c = y) && decide (w = x))
theorem if4 {β : Type} (A B C E : Prop) [Decidable A] [Decidable B] [Decidable C] [Decidable E] (s t : β) : (if A then if B then s else (if C then if E then s else t else t) else (if C then if E then s else t else t)) = if ((decide A && decide B) || (decide C && decide E)) = true then s else t := by
  by_cases hA : A <;> by_cases hB : B <;> by_cases hC : C <;> by_cases hE : E <;> simp [hA, hB, hC, hE]
theorem c_met {S : Rw} {p q x y : Int32} : fX1_haveJustMet x y (encL S p q) = some (if hmB p q x y = true then 1 else 0) := by
  show (if p = x then if q = y then some (1 : Int32) else (if p = y then if q = x then some 1 else some 0 else some 0) else (if p = y then if q = x then some 1 else some 0 else some 0)) = _
  rw [if4]
  unfold hmB
  split <;> rfl
theorem upI_met (p : Rw × Nat × Nat) {a b : Nat} (ha : a < 8) (hb : b < 8) : hmB (upI p) (eB p.2.2) (nI a) (nI b) = hmB (eB p.2.1) (eB p.2.2) (nI a) (nI b) := by
  unfold upI
  by_cases hz : p.2.2 = 0
  · rw [if_pos hz, hz]
    have e1 : ¬ eB 0 = nI a := by rw [eB_0, n_m1nat (by omega)]; exact id
    have e2 : ¬ eB 0 = nI b := by rw [eB_0, n_m1nat (by omega)]; exact id
    unfold hmB
    rw [decide_eq_false e1, decide_eq_false e2, Bool.and_false, Bool.and_false, Bool.and_false, Bool.and_false]
  · rw [if_neg hz]
theorem m_met {n : Nat} {G : M2} {x y v : Int32} : (if G 0 0 = x then if G 0 1 = y then fX6_meet_c93 (fX6_meet_c42 n) x y v G J else fX6_meet_c77 (fX6_meet_c42 n) x y v G J else fX6_meet_c77 (fX6_meet_c42 n) x y v G J) = fX6_meet_c42 n x y v (if hmB (G 0 0) (G 0 1) x y = true then 1 else 0) G J := by
  unfold fX6_meet_c77 fX6_meet_c93 fX6_meet_c97 fX6_meet_c98
  rw [if4]
  unfold hmB
  split <;> rfl
theorem meet_lp (h : Rel R1 R2 R3 K T SN SZ F G J) {R : Rw} (hG : G 1 = encG R) {a b : Nat} (ha : a < 8) (hb : b < 8) : ∀ m i fuel {D : Nat} {S : Rw} {c w ut dt : Int32}, i + m = 200 → m + 1 < fuel → Inv D S → D + m < 99998 → ∃ r R2' F' G', fX5_meet_c40 fuel (nI a) (nI b) (nI (i + 1)) R1 (encL S ut dt) R3 K T SN SZ F = some (r, R2', F') ∧ fX6_meet_c42 fuel (nI a) (nI b) (nI i) 0 (mG (cw (tr G R) c w) S) J = some (r, G') ∧ Rel R1 R2' R3 K T SN SZ F' G' J := by
  intro m
  induction m with
  | zero =>
    intro i fuel D S c w ut dt hi hf hI hD
    obtain ⟨n, rfl⟩ : ∃ n, fuel = n + 1 + 1 := ⟨fuel - 2, by omega⟩
    have hgt : (200 : Int32) < nI (i + 1) := i_lt (a := 200) (by decide) (by omega) (by omega)
    have hgi : ¬ (200 : Int32) < nI i := i_nlt (a := 200) (by decide) (by omega) (by omega)
    have hle : ¬ nI (i + 1) ≤ (200 : Int32) := i_nle (b := 200) (by omega) (by decide) (by omega)
    refine ⟨(-1000000004 : Int32), _, _, _, ?_, ?_, (h.ask hG S ut dt (eB (dayS S).2.1) (eB (dayS S).2.2)).find 3⟩
    · rw [fX5_meet_c40, if_pos hgt]
      unfold fX5_meet_c74
      rw [c_tell3, bind2_eq]
    · rw [fX6_meet_c42, if_neg hgi, ifp00, m_day hI (by omega), bind_eq, letb_eq, cw_cw, show nI i + (1 : Int32) = nI (i + 1) from n_add i 1, m_met, fX6_meet_c42, if_pos hgt]
      unfold fX6_meet_c103 fX6_meet_c129
      rw [m_back, bind_eq, if_neg hle, m_find3, bind2_eq]
      rfl
  | succ m ih =>
    intro i fuel D S c w ut dt hi hf hI hD
    obtain ⟨n, rfl⟩ : ∃ n, fuel = n + 1 + 1 := ⟨fuel - 2, by omega⟩
    have hgt : ¬ (200 : Int32) < nI (i + 1) := i_nlt (a := 200) (by decide) (by omega) (by omega)
    have hgi : ¬ (200 : Int32) < nI i := i_nlt (a := 200) (by decide) (by omega) (by omega)
    have hle : nI (i + 1) ≤ (200 : Int32) := i_le (b := 200) (by omega) (by decide) (by omega)
    rw [fX5_meet_c40, if_neg hgt, c_day hI (by omega), bind_eq, c_met, bind_eq, upI_met _ ha hb]
    rw [fX6_meet_c42, if_neg hgi, ifp00, m_day hI (by omega), bind_eq, letb_eq, letb_eq, cw_cw, show nI i + (1 : Int32) = nI (i + 1) from n_add i 1, m_met, mG_a (by decide), cw_0, cw_1]
    by_cases hq : hmB (eB (dayS S).2.1) (eB (dayS S).2.2) (nI a) (nI b) = true
    · rw [if_pos hq, ifn10]
      refine ⟨nI (i + 1), _, _, mG (cw (tr G R) (eB (dayS S).2.1) (eB (dayS S).2.2)) R, rfl, ?_, h.ask hG (dayS S).1 (upI (dayS S)) (eB (dayS S).2.2) _ _⟩
      rw [fX6_meet_c42, if_neg hgt, ifn10]
      unfold fX6_meet_c103 fX6_meet_c129
      rw [m_back, bind_eq, if_pos hle]
    · obtain ⟨r, R2', F', G', q1, q2, q3⟩ := ih (i + 1) (n + 1) (D := D + 1) (S := (dayS S).1) (c := eB (dayS S).2.1) (w := eB (dayS S).2.2) (ut := upI (dayS S)) (dt := eB (dayS S).2.2) (by omega) (by omega) (day_inv hI (by omega)) (by omega)
      rw [if_neg hq, ifp00]
      refine ⟨r, R2', F', G', ?_, q2, q3⟩
      rw [show nI (i + 1) + (1 : Int32) = nI (i + 1 + 1) from n_add (i + 1) 1]
      exact q1
theorem e_meet (h : Rel R1 R2 R3 K T SN SZ F G J) (x1 x2 : Int32) : ∃ r R2' F' G', fX5_meet x1 x2 R1 R2 R3 K T SN SZ F = some (r, R2', F') ∧ fX6_meet x1 x2 G J = some (r, G') ∧ Rel R1 R2' R3 K T SN SZ F' G' J := by
  obtain ⟨R, u, d, hI, rfl, hG⟩ := h.real
  have h6 := hI.many
  obtain ⟨Rt, ut, dt, rfl⟩ := h.trial
  by_cases hk : isK R x1
  · by_cases hp : isK R x2
    · by_cases he : x1 = x2
      · refine ⟨(-1000000001 : Int32), _, _, _, ?_, ?_, h.find 0⟩
        · simp only [fX5_meet, fX5_meet_c27, c_has hI hk, c_has hI hp, if_pos he, bind_eq, bind2_eq, ifn10, reduceIte, c_tell0]
        · have q : fX6_meet x1 x2 (mG G R) J = some ((-1000000001 : Int32), st2 (mG G R) 2 (upd (mG G R 2) 0 (mG G R 2 0 + 1))) := by
            simp only [fX6_meet, fX6_meet_c21, m_one hI hk, m_one hI hp, if_pos he, bind_eq, bind2_eq, ifn10, reduceIte, m_find0]
          rw [mG_self hG] at q; exact q
      · obtain ⟨a, ha, rfl⟩ := isK_nat hk
        obtain ⟨b, hb, rfl⟩ := isK_nat hp
        obtain ⟨c, w, hc⟩ := m_tryc h (R := R)
        obtain ⟨r, R2', F', G', q1, q2, q3⟩ := meet_lp h hG (a := a) (b := b) (by omega) (by omega) 200 0 FU (D := 9999) (S := R) (c := c) (w := w) (ut := ut) (dt := dt) (by omega) (by rw [FU_eq]; omega) hI (by omega)
        refine ⟨r, R2', F', G', ?_, ?_, q3⟩
        · unfold fX5_meet
          rw [c_has hI hk, bind_eq, ifn10, c_has hI hp, bind_eq, ifn10, if_neg he, c_start, bind_eq]
          exact q1
        · have q : fX6_meet (nI a) (nI b) (mG G R) J = some (r, G') := by
            unfold fX6_meet
            rw [m_one hI hk, bind_eq, ifn10, m_one hI hp, bind_eq, ifn10, if_neg he, hc, bind_eq]
            exact q2
          rw [mG_self hG] at q; exact q
    · refine ⟨(-1000000001 : Int32), _, _, _, ?_, ?_, h.find 0⟩
      · simp only [fX5_meet, fX5_meet_c27, c_has hI hk, c_hasN hI hp, bind_eq, bind2_eq, ifn10, reduceIte, c_tell0]
      · have q : fX6_meet x1 x2 (mG G R) J = some ((-1000000001 : Int32), st2 (mG G R) 2 (upd (mG G R 2) 0 (mG G R 2 0 + 1))) := by
          simp only [fX6_meet, fX6_meet_c21, m_one hI hk, m_oneN hI hp, bind_eq, bind2_eq, ifn10, reduceIte, m_find0]
        rw [mG_self hG] at q; exact q
  · refine ⟨(-1000000001 : Int32), _, _, _, ?_, ?_, h.find 0⟩
    · simp only [fX5_meet, fX5_meet_c27, c_hasN hI hk, bind_eq, bind2_eq, ifn10, reduceIte, c_tell0]
    · have q : fX6_meet x1 x2 (mG G R) J = some ((-1000000001 : Int32), st2 (mG G R) 2 (upd (mG G R 2) 0 (mG G R 2 0 + 1))) := by
        simp only [fX6_meet, fX6_meet_c21, m_oneN hI hk, bind_eq, bind2_eq, ifn10, reduceIte, m_find0]
      rw [mG_self hG] at q; exact q
theorem kind_lp {R1 : M2} (h : Rel R1 R2 R3 K T SN SZ F G J) {R : Rw} {u d : Int32} (hR : R1 = encL R u d) (hI : Inv 9999 R) (hG : G 1 = encG R) {k n : Nat} (hk : k < 8) (hn : n ≤ 100) : ∀ m i fuel {S : Rw} {c w ut dt y z : Int32}, i + m = 6 → m < fuel → ∃ r R2' G', fX5_kind_c36 fuel (nI k) (nI n) y z (nI i) R1 (encL S ut dt) R3 K T SN SZ F = some (r, R2', F) ∧ fX6_kind_c42 fuel (nI k) (nI n) y z (nI i) (mG (cw (tr G R) c w) R) J = some (r, G') ∧ Rel R1 R2' R3 K T SN SZ F G' J := by
  intro m
  induction m with
  | zero =>
    intro i fuel S c w ut dt y z hi hf
    obtain ⟨f, rfl⟩ : ∃ f, fuel = f + 1 := ⟨fuel - 1, by omega⟩
    refine ⟨y, _, mG (cw (tr G R) c w) R, ?_, ?_, h.ask hG S ut dt c w⟩
    · rw [fX5_kind_c36, if_pos (show (6 : Int32) ≤ nI i from i_le (a := 6) (by decide) (by omega) (by omega))]
      rfl
    · rw [fX6_kind_c42, if_pos (show (5 : Int32) < nI i from i_lt (a := 5) (by decide) (by omega) (by omega))]
      rfl
  | succ m ih =>
    intro i fuel S c w ut dt y z hi hf
    obtain ⟨f, rfl⟩ : ∃ f, fuel = f + 1 := ⟨fuel - 1, by omega⟩
    have hJ : Inv 9999 (wr R (35 + 5 * k) i) := Inv.set hI (by rw [bnd_kind]; omega) (by omega)
    have hJn := dn_inv (D := 0) n hJ (by omega)
    have hwd := hJn.words hk
    obtain ⟨u', d', hc⟩ := c_days (u := ut) (d := dt) hJ (n := n) (by omega) (by omega)
    obtain ⟨c', w', hm⟩ := m_days (G := cw (tr G R) c w) (J := J) hJ (n := n) (by omega) (by omega)
    rw [cw_cw] at hm
    have ep : fX6_puts (nI k) (0 : Int32) (nI i) (mG (cw (tr G R) c w) R) J = some (mG (cw (tr G R) c w) (wr R (35 + 5 * k) i)) := m_puts0 hk
    have ei : fX6_its (nI k) (3 : Int32) (mG (cw (tr G R) c' w') (dn (wr R (35 + 5 * k) i) n)) J = some (nI (dn (wr R (35 + 5 * k) i) n (38 + 5 * k))) := m_its3 hk
    rw [fX5_kind_c36, if_neg (show ¬ (6 : Int32) ≤ nI i from i_nle (a := 6) (by decide) (by omega) (by omega)), hR, c_start, bind_eq, g_inb (by omega) (by omega), n_cl (by omega), encL_s2 hk, letb_eq, hc, bind_eq, g_inb (by omega) (by omega), encL_5 hk, bitCount_all _ (by omega), bind_eq, ← hR]
    rw [fX6_kind_c42, if_neg (show ¬ (5 : Int32) < nI i from i_nlt (a := 5) (by decide) (by omega) (by omega)), ep, bind_eq, hm, bind_eq, ei, bind_eq, bits_all _ (by omega), bind_eq, m_back, bind_eq]
    unfold fX5_kind_c94 fX6_kind_c94 fX6_kind_c109
    rw [letb_eq, letb_eq, show nI i + (1 : Int32) = nI (i + 1) from n_add i 1]
    by_cases hq : nI (pcount (dn (wr R (35 + 5 * k) i) n (38 + 5 * k))) ≤ z
    · rw [if_pos hq, if_pos hq, if_pos hq, letb_eq]
      exact ih (i + 1) f (by omega) (by omega)
    · rw [if_neg hq, if_neg hq, if_neg hq, letb_eq]
      exact ih (i + 1) f (by omega) (by omega)
theorem e_kind (h : Rel R1 R2 R3 K T SN SZ F G J) (x1 x2 : Int32) : ∃ r R2' F' G', fX5_kind x1 x2 R1 R2 R3 K T SN SZ F = some (r, R2', F') ∧ fX6_kind x1 x2 G J = some (r, G') ∧ Rel R1 R2' R3 K T SN SZ F' G' J := by
  obtain ⟨R, u, d, hI, rfl, hG⟩ := h.real
  have h6 := hI.many
  obtain ⟨Rt, ut, dt, rfl⟩ := h.trial
  by_cases hk : isK R x1
  · by_cases hp : (1 : Int32) ≤ x2 ∧ x2 ≤ 100
    · obtain ⟨k, hk1, rfl⟩ := isK_nat hk
      obtain ⟨n, -, hn2, rfl⟩ := rng (a := 1) (b := 100) (by decide) (by decide) hp
      obtain ⟨c, w, hc⟩ := m_tryc h (R := R)
      obtain ⟨r, R2', G', q1, q2, q3⟩ := kind_lp h rfl hI hG (k := k) (n := n) (by omega) hn2 6 0 FU (S := Rt) (c := c) (w := w) (ut := ut) (dt := dt) (y := 0) (z := -1) (by omega) (by rw [FU_eq]; omega)
      refine ⟨r, R2', F, G', ?_, ?_, q3⟩
      · unfold fX5_kind
        rw [c_has hI hk, bind_eq, ifn10, within_true hp, bind_eq, ifn10]
        exact q1
      · have q : fX6_kind (nI k) (nI n) (mG G R) J = some (r, G') := by
          unfold fX6_kind
          rw [m_one hI hk, bind_eq, ifn10, in_true hp, bind_eq, ifn10, hc, bind_eq]
          exact q2
        rw [mG_self hG] at q; exact q
    · refine ⟨(-1000000001 : Int32), _, _, _, ?_, ?_, h.find 0⟩
      · simp only [fX5_kind, fX5_kind_c21, c_has hI hk, within_false hp, bind_eq, bind2_eq, ifn10, reduceIte, c_tell0]
      · have q : fX6_kind x1 x2 (mG G R) J = some ((-1000000001 : Int32), st2 (mG G R) 2 (upd (mG G R 2) 0 (mG G R 2 0 + 1))) := by
          simp only [fX6_kind, fX6_kind_c18, m_one hI hk, in_false hp, bind_eq, bind2_eq, ifn10, reduceIte, m_find0]
        rw [mG_self hG] at q; exact q
  · refine ⟨(-1000000001 : Int32), _, _, _, ?_, ?_, h.find 0⟩
    · simp only [fX5_kind, fX5_kind_c21, c_hasN hI hk, bind_eq, bind2_eq, ifn10, reduceIte, c_tell0]
    · have q : fX6_kind x1 x2 (mG G R) J = some ((-1000000001 : Int32), st2 (mG G R) 2 (upd (mG G R 2) 0 (mG G R 2 0 + 1))) := by
        simp only [fX6_kind, fX6_kind_c18, m_oneN hI hk, bind_eq, bind2_eq, ifn10, reduceIte, m_find0]
      rw [mG_self hG] at q; exact q
theorem m_wrd_lp {D : Nat} {R : Rw} (hI : Inv D R) : ∀ m i acc fuel, i + m = R 6 → m < fuel → fX6_wordsOfAll_c4 fuel (nI acc) (nI i) (mG G R) J = some (nI (acc + sumM (fun k => pcount (R (38 + 5 * k))) i m)) := by
  have h6 := hI.many
  intro m
  induction m with
  | zero =>
    intro i acc fuel hi hf
    obtain ⟨f, rfl⟩ : ∃ f, fuel = f + 1 := ⟨fuel - 1, by omega⟩
    rw [fX6_wordsOfAll_c4, g_6, t_6, mG_r (by decide), if_pos (i_le (by omega) (by omega) (by omega))]
    rfl
  | succ m ih =>
    intro i acc fuel hi hf
    obtain ⟨f, rfl⟩ : ∃ f, fuel = f + 1 := ⟨fuel - 1, by omega⟩
    have hwd := hI.words (k := i) (by omega)
    have ei : fX6_its (nI i) (3 : Int32) (mG G R) J = some (nI (R (38 + 5 * i))) := m_its3 (by omega)
    rw [fX6_wordsOfAll_c4, g_6, t_6, mG_r (by decide), if_neg (i_nle (by omega) (by omega) (by omega)), ei, bind_eq, bits_all _ (by omega), bind_eq, letb_eq, letb_eq, n_add, show nI i + (1 : Int32) = nI (i + 1) from n_add i 1, ih (i + 1) _ f (by omega) (by omega), Nat.add_assoc]
    rfl
theorem m_wrd {D : Nat} {R : Rw} (hI : Inv D R) : fX6_wordsOfAll (mG G R) J = some (nI (wrdS R)) := by
  have h6 := hI.many
  unfold fX6_wordsOfAll wrdS
  rw [show (0 : Int32) = nI 0 from rfl, m_wrd_lp hI (R 6) 0 0 FU (by omega) (by rw [FU_eq]; omega), Nat.zero_add]
theorem beds_lp {R1 : M2} (h : Rel R1 R2 R3 K T SN SZ F G J) {R : Rw} {u d : Int32} (hR : R1 = encL R u d) (hI : Inv 9999 R) (hG : G 1 = encG R) {n : Nat} (hn : n ≤ 100) : ∀ m i fuel {S : Rw} {c w ut dt y z : Int32}, i + m = 4 → 1 ≤ i → m < fuel → ∃ r R2' G', fX5_beds_c24 fuel (nI n) y z (nI i) R1 (encL S ut dt) R3 K T SN SZ F = some (r, R2', F) ∧ fX6_beds_c33 fuel (nI n) y z (nI i) (mG (cw (tr G R) c w) R) J = some (r, G') ∧ Rel R1 R2' R3 K T SN SZ F G' J := by
  intro m
  induction m with
  | zero =>
    intro i fuel S c w ut dt y z hi h1 hf
    obtain ⟨f, rfl⟩ : ∃ f, fuel = f + 1 := ⟨fuel - 1, by omega⟩
    have hg : (3 : Int32) < nI i := i_lt (a := 3) (by decide) (by omega) (by omega)
    refine ⟨y, _, mG (cw (tr G R) c w) R, ?_, ?_, h.ask hG S ut dt c w⟩
    · rw [fX5_beds_c24, if_pos hg]
      rfl
    · rw [fX6_beds_c33, if_pos hg]
      rfl
  | succ m ih =>
    intro i fuel S c w ut dt y z hi h1 hf
    obtain ⟨f, rfl⟩ : ∃ f, fuel = f + 1 := ⟨fuel - 1, by omega⟩
    have hg : ¬ (3 : Int32) < nI i := i_nlt (a := 3) (by decide) (by omega) (by omega)
    have hJ : Inv 9999 (wr R 3 i) := Inv.set hI (show _ ≤ 3 by omega) (by omega)
    have hJn := dn_inv (D := 0) n hJ (by omega)
    obtain ⟨u', d', hc⟩ := c_days (u := ut) (d := dt) hJ (n := n) (by omega) (by omega)
    obtain ⟨c', w', hm⟩ := m_days (G := cw (tr G R) c w) (J := J) hJ (n := n) (by omega) (by omega)
    rw [cw_cw] at hm
    rw [fX5_beds_c24, if_neg hg, hR, c_start, bind_eq, encL_s0 (by decide), letb_eq, hc, bind_eq, c_wrd hJn, bind_eq, ← hR]
    rw [fX6_beds_c33, if_neg hg, show ∀ k : Option (Int32 × M2), grd (inb (3 : Int32) 75) k = k from fun _ => rfl, show (3 : Int32).toNatClampNeg = 3 from rfl, mG_s (by decide), letb_eq, hm, bind_eq, m_wrd hJn, bind_eq, m_back, bind_eq]
    unfold fX5_beds_c72 fX6_beds_c79 fX6_beds_c92
    rw [letb_eq, letb_eq, show nI i + (1 : Int32) = nI (i + 1) from n_add i 1]
    by_cases hq : nI (wrdS (dn (wr R 3 i) n)) ≤ z
    · rw [if_pos hq, if_pos hq, if_pos hq, letb_eq]
      exact ih (i + 1) f (by omega) (by omega) (by omega)
    · rw [if_neg hq, if_neg hq, if_neg hq, letb_eq]
      exact ih (i + 1) f (by omega) (by omega) (by omega)
theorem e_beds (h : Rel R1 R2 R3 K T SN SZ F G J) (x1 : Int32) : ∃ r R2' F' G', fX5_beds x1 R1 R2 R3 K T SN SZ F = some (r, R2', F') ∧ fX6_beds x1 G J = some (r, G') ∧ Rel R1 R2' R3 K T SN SZ F' G' J := by
  obtain ⟨R, u, d, hI, rfl, hG⟩ := h.real
  have h6 := hI.many
  obtain ⟨Rt, ut, dt, rfl⟩ := h.trial
  by_cases hp : (1 : Int32) ≤ x1 ∧ x1 ≤ 100
  · obtain ⟨n, -, hn2, rfl⟩ := rng (a := 1) (b := 100) (by decide) (by decide) hp
    obtain ⟨c, w, hc⟩ := m_tryc h (R := R)
    obtain ⟨r, R2', G', q1, q2, q3⟩ := beds_lp h rfl hI hG (n := n) hn2 3 1 FU (S := Rt) (c := c) (w := w) (ut := ut) (dt := dt) (y := 1) (z := -1) (by omega) (by omega) (by rw [FU_eq]; omega)
    refine ⟨r, R2', F, G', ?_, ?_, q3⟩
    · unfold fX5_beds
      rw [within_true hp, bind_eq, ifn10]
      exact q1
    · have q : fX6_beds (nI n) (mG G R) J = some (r, G') := by
        unfold fX6_beds
        rw [in_true hp, bind_eq, ifn10, hc, bind_eq]
        exact q2
      rw [mG_self hG] at q; exact q
  · refine ⟨(-1000000001 : Int32), _, _, _, ?_, ?_, h.find 0⟩
    · simp only [fX5_beds, within_false hp, bind_eq, bind2_eq, ifn10, reduceIte, c_tell0]
    · have q : fX6_beds x1 (mG G R) J = some ((-1000000001 : Int32), st2 (mG G R) 2 (upd (mG G R 2) 0 (mG G R 2 0 + 1))) := by
        simp only [fX6_beds, in_false hp, bind_eq, bind2_eq, ifn10, reduceIte, m_find0]
      rw [mG_self hG] at q; exact q
end C5
