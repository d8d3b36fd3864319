section C7
variable {R1 R2 R3 : M2} {K : Int32} {T : M2} {SN : J2} {SZ : M2} {F : M1} {G : M2} {J : J2}
theorem fstM_0 (R : Rw) (x : Nat) : ∀ m i b, fstM R x i m b = 0 ↔ (b = 0 ∧ sumM (fun k => if R (36 + 5 * k) = x then 1 else 0) i m = 0) := by
  intro m
  induction m with
  | zero => intro i b; exact ⟨fun h => ⟨h, rfl⟩, fun h => h.1⟩
  | succ m ih =>
    intro i b
    show fstM R x (i + 1) m (if R (36 + 5 * i) = x ∧ (b = 0 ∨ R (37 + 5 * i) < R (37 + 5 * (b - 1))) then i + 1 else b) = 0 ↔ (b = 0 ∧ (if R (36 + 5 * i) = x then 1 else 0) + sumM (fun k => if R (36 + 5 * k) = x then 1 else 0) (i + 1) m = 0)
    rw [ih]
    by_cases hb : b = 0
    · by_cases hx : R (36 + 5 * i) = x
      · rw [if_pos ⟨hx, Or.inl hb⟩, if_pos hx]; omega
      · rw [if_neg (fun hh => hx hh.1), if_neg hx]; omega
    · constructor
      · intro hh
        exfalso
        have h1 := hh.1
        split at h1 <;> omega
      · intro hh; exact absurd hh.1 hb
theorem fst_cnt (R : Rw) (x : Nat) : fstS R x = 0 ↔ cntS R x = 0 := by
  have q := fstM_0 R x (R 6) 0 0
  unfold fstS cntS
  rw [q]
  exact ⟨fun h => h.2, fun h => ⟨rfl, h⟩⟩
def fr (R S : Rw) : Prop := S 1 = R 1 ∧ ∀ j, 6 ≤ j → S j = R j
theorem fr_fst {R S : Rw} (h : fr R S) (x : Nat) : fstS S x = fstS R x := by
  have q : ∀ m i b, fstM S x i m b = fstM R x i m b := by
    intro m
    induction m with
    | zero => intro i b; rfl
    | succ m ih =>
      intro i b
      show fstM S x (i + 1) m _ = fstM R x (i + 1) m _
      rw [ih, h.2 _ (by omega), h.2 _ (by omega), h.2 _ (by omega)]
  unfold fstS
  rw [q, h.2 6 (by omega)]
theorem fr_sec {R S : Rw} (h : fr R S) (n : Nat) : secS S n = secS R n := by
  unfold secS
  rw [h.1, h.2 _ (by omega)]
theorem fr_refl (R : Rw) : fr R R := ⟨rfl, fun _ _ => rfl⟩
theorem fr_trans {R S T : Rw} (h : fr R S) (k : fr S T) : fr R T := ⟨k.1.trans h.1, fun j hj => (k.2 j hj).trans (h.2 j hj)⟩
theorem fr_wr {R S : Rw} (h : fr R S) {j : Nat} (v : Nat) (hj : j = 0 ∨ j = 4) : fr R (wr S j v) := ⟨by rw [wr_ne _ _ (by omega)]; exact h.1, fun i hi => by rw [wr_ne _ _ (by omega)]; exact h.2 i hi⟩
theorem fr_burn (R : Rw) (need : Nat) : fr R (burnS R need) := ⟨burnS_big R need (by decide) (by decide), fun j hj => burnS_big R need (by omega) (by omega)⟩
/-- a day without a relief -/
theorem day_none {S : Rw} (h : secS S (S 0) = 0 ∨ S 4 + 1 < 3 ∨ fstS S 0 = 0) : (dayS S).2.1 = 0 ∧ fr S (dayS S).1 ∧ (dayS S).1 4 = if secS S (S 0) = 0 then S 4 else if S 4 + 1 < 3 then S 4 + 1 else 2 := by
  have hb := fr_burn S (usAll S)
  have h4 : burnS S (usAll S) 4 = S 4 := burnS_big S _ (by decide) (by decide)
  unfold dayS
  by_cases h0 : secS S (S 0) = 0
  · rw [if_pos h0, if_pos h0]
    refine ⟨rfl, fr_wr hb _ (Or.inl rfl), ?_⟩
    show wr (burnS S (usAll S)) 0 (S 0 + 1) 4 = S 4
    rw [wr_ne _ _ (by decide), h4]
  · rw [if_neg h0, if_neg h0]
    unfold galeS
    rw [h4]
    by_cases h3 : S 4 + 1 < 3
    · rw [if_pos h3, if_pos h3]
      refine ⟨rfl, fr_wr (fr_wr hb _ (Or.inr rfl)) _ (Or.inl rfl), ?_⟩
      show wr (wr (burnS S (usAll S)) 4 (S 4 + 1)) 0 (S 0 + 1) 4 = S 4 + 1
      rw [wr_ne _ _ (by decide), wr_eq]
    · have hf : fstS (burnS S (usAll S)) 0 = 0 := by
        rw [fr_fst hb]
        rcases h with h | h | h
        · exact absurd h h0
        · exact absurd h h3
        · exact h
      rw [if_neg h3, if_neg h3, if_pos hf]
      refine ⟨rfl, fr_wr (fr_wr hb _ (Or.inr rfl)) _ (Or.inl rfl), ?_⟩
      show wr (wr (burnS S (usAll S)) 4 2) 0 (S 0 + 1) 4 = 2
      rw [wr_ne _ _ (by decide), wr_eq]
theorem day_some {S : Rw} (h0 : ¬ secS S (S 0) = 0) (h3 : ¬ S 4 + 1 < 3) (hf : fstS S 0 ≠ 0) : (dayS S).2.1 ≠ 0 := by
  have h4 : burnS S (usAll S) 4 = S 4 := burnS_big S _ (by decide) (by decide)
  have hb := fr_fst (fr_burn S (usAll S)) 0
  unfold dayS
  rw [if_neg h0]
  unfold galeS
  rw [h4, if_neg h3, hb, if_neg hf]
  exact hf
def rN (R : Rw) : Nat → Nat → Nat → Nat
  | 0, i, _ => i
  | m + 1, i, g => if secS R (R 0 + i - 1) = 0 then rN R m (i + 1) g else if g + 1 < 3 then rN R m (i + 1) (g + 1) else i
def rS (R : Rw) (n : Nat) : Nat := if cntS R 0 = 0 then n + 1 else rN R n 1 (R 4)
def mN : Rw → Nat → Nat → Nat
  | _, 0, i => i + 1
  | S, m + 1, i => if (dayS S).2.1 = 0 then mN (dayS S).1 m (i + 1) else i + 1
theorem mN_none {S : Rw} : ∀ m i {S : Rw}, fstS S 0 = 0 → mN S m i = i + m + 1 := by
  intro m
  induction m with
  | zero => intro i S h; rfl
  | succ m ih =>
    intro i S h
    obtain ⟨h1, h2, -⟩ := day_none (S := S) (Or.inr (Or.inr h))
    show (if (dayS S).2.1 = 0 then mN (dayS S).1 m (i + 1) else i + 1) = _
    rw [if_pos h1, ih (i + 1) (by rw [fr_fst h2]; exact h)]
    omega
theorem mN_rN {R : Rw} (hf : fstS R 0 ≠ 0) : ∀ m i {S : Rw}, fr R S → S 0 = R 0 + i → S 4 ≤ 2 → mN S m i = rN R m (i + 1) (S 4) := by
  intro m
  induction m with
  | zero => intro i S h1 h2 h3; rfl
  | succ m ih =>
    intro i S h1 h2 h3
    have hs : secS R (R 0 + (i + 1) - 1) = secS S (S 0) := by rw [fr_sec h1, h2, show R 0 + (i + 1) - 1 = R 0 + i by omega]
    show (if (dayS S).2.1 = 0 then mN (dayS S).1 m (i + 1) else i + 1) = (if secS R (R 0 + (i + 1) - 1) = 0 then rN R m (i + 1 + 1) (S 4) else if S 4 + 1 < 3 then rN R m (i + 1 + 1) (S 4 + 1) else i + 1)
    rw [hs]
    by_cases h0 : secS S (S 0) = 0
    · obtain ⟨e1, e2, e3⟩ := day_none (S := S) (Or.inl h0)
      rw [if_pos h0] at e3
      rw [if_pos e1, if_pos h0, ih (i + 1) (fr_trans h1 e2) (by rw [dayS_0, h2]; omega) (by omega), e3]
    · by_cases h4 : S 4 + 1 < 3
      · obtain ⟨e1, e2, e3⟩ := day_none (S := S) (Or.inr (Or.inl h4))
        rw [if_neg h0, if_pos h4] at e3
        rw [if_pos e1, if_neg h0, if_pos h4, ih (i + 1) (fr_trans h1 e2) (by rw [dayS_0, h2]; omega) (by omega), e3]
      · rw [if_neg (day_some h0 h4 (by rw [fr_fst h1]; exact hf)), if_neg h0, if_neg h4]
theorem mN_rS {D : Nat} {R : Rw} (hI : Inv D R) (n : Nat) : mN R n 0 = rS R n := by
  unfold rS
  by_cases hc : cntS R 0 = 0
  · rw [if_pos hc, mN_none (S := R) n 0 ((fst_cnt R 0).mpr hc)]; omega
  · rw [if_neg hc, mN_rN (fun hh => hc ((fst_cnt R 0).mp hh)) n 0 (fr_refl R) (by omega) hI.gales]
theorem rN_le (R : Rw) : ∀ m i g, rN R m i g ≤ i + m := by
  intro m
  induction m with
  | zero => intro i g; exact Nat.le_refl _
  | succ m ih =>
    intro i g
    have a := ih (i + 1) g
    have b := ih (i + 1) (g + 1)
    show (if secS R (R 0 + i - 1) = 0 then rN R m (i + 1) g else if g + 1 < 3 then rN R m (i + 1) (g + 1) else i) ≤ _
    split
    · omega
    · split <;> omega
theorem rS_le (R : Rw) (n : Nat) : rS R n ≤ n + 1 := by
  have := rN_le R n 1 (R 4)
  unfold rS
  split <;> omega
theorem sec_gale (R : Rw) (n : Nat) : secS R n = 0 ↔ ¬ R 1 ≤ R (7 + n % 28) := by
  unfold secS
  split <;> omega
theorem c_rel_lp {D : Nat} {R : Rw} {u d : Int32} (hI : Inv D R) {n : Nat} (hn : n ≤ 300) : ∀ m i g fuel, i + m = n + 1 → 1 ≤ i → m < fuel → g ≤ 2 → fX1_daysToRelief_c19 fuel (nI n) (nI g) (nI i) (encL R u d) = some (nI (rN R m i g)) := by
  have hd := hI.day
  have hD := hI.2.2
  intro m
  induction m with
  | zero =>
    intro i g fuel hi h1 hf hg
    obtain ⟨f, rfl⟩ : ∃ f, fuel = f + 1 := ⟨fuel - 1, by omega⟩
    rw [fX1_daysToRelief_c19, if_pos (i_lt (by omega) (by omega) (by omega))]
    unfold fX1_daysToRelief_c55
    rw [show nI n + (1 : Int32) = nI (n + 1) from n_add n 1, show n + 1 = i by omega]
    rfl
  | succ m ih =>
    intro i g fuel hi h1 hf hg
    obtain ⟨f, rfl⟩ : ∃ f, fuel = f + 1 := ⟨fuel - 1, by omega⟩
    rw [fX1_daysToRelief_c19, if_neg (i_nlt (by omega) (by omega) (by omega)), encL_0 (by decide), n_add, show nI (R 0 + i) - (1 : Int32) = nI (R 0 + i - 1) from n_sub (b := 1) (by omega), c_gale hI (by omega), bind_eq]
    unfold fX1_daysToRelief_c42 fX1_daysToRelief_c47
    show _ = some (nI (if secS R (R 0 + i - 1) = 0 then rN R m (i + 1) g else if g + 1 < 3 then rN R m (i + 1) (g + 1) else i))
    by_cases hc : R 1 ≤ R (7 + (R 0 + i - 1) % 28)
    · rw [if_pos hc, ifn10, if_neg (fun hh => (sec_gale R _).mp hh hc), letb_eq, show nI g + (1 : Int32) = nI (g + 1) from n_add g 1, show nI i + (1 : Int32) = nI (i + 1) from n_add i 1]
      by_cases h3 : g + 1 < 3
      · rw [if_pos (show nI (g + 1) < (3 : Int32) from i_lt (b := 3) (by omega) (by decide) h3), if_pos h3, letb_eq, ih (i + 1) (g + 1) f (by omega) (by omega) (by omega) (by omega)]
      · rw [if_neg (show ¬ nI (g + 1) < (3 : Int32) from i_nlt (b := 3) (by omega) (by decide) (by omega)), if_neg h3]
    · rw [if_neg hc, ifp00, if_pos ((sec_gale R _).mpr hc), if_pos (show nI g < (3 : Int32) from i_lt (b := 3) (by omega) (by decide) (by omega)), letb_eq, show nI i + (1 : Int32) = nI (i + 1) from n_add i 1, ih (i + 1) g f (by omega) (by omega) (by omega) hg]
theorem c_rel {D : Nat} {R : Rw} {u d : Int32} (hI : Inv D R) {n : Nat} (hn : n ≤ 300) : fX1_daysToRelief (nI n) (encL R u d) = some (nI (rS R n)) := by
  have h6 := hI.many
  have hc : cntS R 0 ≤ 1 * R 6 := by
    unfold cntS
    exact sumM_le _ 1 _ _ (fun k _ _ => by split <;> omega)
  have ec : fX1_countStanding (0 : Int32) (encL R u d) = some (nI (cntS R 0)) := c_cnt hI (x := 0) (by omega)
  unfold fX1_daysToRelief rS
  rw [ec, bind_eq]
  by_cases h0 : cntS R 0 = 0
  · rw [if_pos h0, h0, if_pos (show nI 0 = (0 : Int32) from rfl), show nI n + (1 : Int32) = nI (n + 1) from n_add n 1]
  · rw [if_neg h0, if_neg (i_ne0 (by omega) h0), encL_0 (by decide), letb_eq]
    exact c_rel_lp hI hn n 1 (R 4) FU (by omega) (by omega) (by rw [FU_eq]; omega) hI.gales
theorem m_rel_lp {R : Rw} {n : Nat} (hn : n ≤ 300) : ∀ m i fuel {D : Nat} {S : Rw} {w : Int32}, i + m = n → m + 1 < fuel → Inv D S → D + m < 99998 → ∃ c' w', fX6_nextRelief_c16 fuel (nI n) (nI i) (mG (cw (tr G R) (-1) w) S) J = some (nI (mN S m i), mG (cw (tr G R) c' w') R) := by
  have m1 : ¬ (0 : Int32) ≤ -1 := by decide
  intro m
  induction m with
  | zero =>
    intro i fuel D S w hi hf hI hD
    obtain ⟨f, rfl⟩ : ∃ f, fuel = f + 1 + 1 := ⟨fuel - 2, by omega⟩
    refine ⟨eB (dayS S).2.1, eB (dayS S).2.2, ?_⟩
    rw [fX6_nextRelief_c16, if_neg (i_nlt (by omega) (by omega) (by omega)), mG_a (by decide), cw_0, if_neg m1, m_day hI (by omega), bind_eq, letb_eq, cw_cw, show nI i + (1 : Int32) = nI (i + 1) from n_add i 1]
    rw [fX6_nextRelief_c16, if_pos (i_lt (by omega) (by omega) (by omega))]
    unfold fX6_nextRelief_c38
    rw [m_back, bind_eq]
    rfl
  | succ m ih =>
    intro i fuel D S w hi hf hI hD
    obtain ⟨f, rfl⟩ : ∃ f, fuel = f + 1 + 1 := ⟨fuel - 2, by omega⟩
    rw [fX6_nextRelief_c16, if_neg (i_nlt (by omega) (by omega) (by omega)), mG_a (by decide), cw_0, if_neg m1, m_day hI (by omega), bind_eq, letb_eq, cw_cw, show nI i + (1 : Int32) = nI (i + 1) from n_add i 1]
    show ∃ c' w', _ = some (nI (if (dayS S).2.1 = 0 then mN (dayS S).1 m (i + 1) else i + 1), _)
    by_cases hq : (dayS S).2.1 = 0
    · rw [if_pos hq, hq, eB_0]
      exact ih (i + 1) (f + 1) (by omega) (by omega) (day_inv hI (by omega)) (by omega)
    · obtain ⟨b, hb⟩ : ∃ b, (dayS S).2.1 = b + 1 := ⟨(dayS S).2.1 - 1, by omega⟩
      have hbn : (0 : Int32) ≤ eB (dayS S).2.1 := by
        have hle : (dayS S).2.1 ≤ 8 := by
          have h6 := hI.many
          have f1 := fstS_le S 0
          have f2 := fr_fst (fr_burn S (usAll S)) 0
          unfold dayS galeS
          split
          · exact Nat.zero_le _
          · split
            · exact Nat.zero_le _
            · split
              · exact Nat.zero_le _
              · show fstS (burnS S (usAll S)) 0 ≤ 8
                omega
        rw [hb, eB_s]
        exact i_pos (by omega)
      refine ⟨eB (dayS S).2.1, eB (dayS S).2.2, ?_⟩
      rw [if_neg hq, fX6_nextRelief_c16, if_neg (i_nlt (by omega) (by omega) (by omega)), mG_a (by decide), cw_0, if_pos hbn]
      unfold fX6_nextRelief_c38
      rw [m_back, bind_eq]
theorem m_next {H : M2} {T3 : Rw} (h3 : H 3 = encG T3) {D : Nat} {S : Rw} (hI : Inv D S) (hD : D < 99000) {n : Nat} (hn : n ≤ 300) : ∃ c w, fX6_nextRelief (nI n) (mG H S) J = some (nI (rS S n), mG (cw (tr H S) c w) S) := by
  obtain ⟨c, w, q⟩ := m_rel_lp (G := H) (J := J) (R := S) hn n 0 FU (w := tr H S 0 1) (by omega) (by rw [FU_eq]; omega) hI (by omega)
  refine ⟨c, w, ?_⟩
  unfold fX6_nextRelief
  rw [mv3_1 (R := S) (T := T3) mG_1 (by rw [mG_a (by decide)]; exact h3), bind_eq, mG_st (by decide)]
  rw [letb_eq, ← mN_rS hI n, ← q]
  have e : st2 (mG (st2 H 3 (encG S)) S) 0 (upd (mG (st2 H 3 (encG S)) S 0) 0 (-1)) = mG (cw (tr H S) (-1) (tr H S 0 1)) S := by
    rw [← mG_cw]
    show _ = st2 (st2 (mG (tr H S) S) 0 (upd (mG (tr H S) S 0) 0 (-1))) 0 (upd (st2 (mG (tr H S) S) 0 (upd (mG (tr H S) S 0) 0 (-1)) 0) 1 (tr H S 0 1))
    rw [st2_eq, st2_st2]
    congr 1
    show upd (mG (tr H S) S 0) 0 (-1) = _
    rw [mG_a (by decide), upd_comm _ (by decide), upd_same]
  rw [e]
  rfl
theorem tr_cw (R S : Rw) (c w : Int32) : tr (cw (tr G R) c w) S = cw (tr G S) c w := by
  unfold tr cw
  rw [st2_comm _ (by decide), st2_st2, st2_ne _ _ (by decide), st2_ne _ _ (by decide)]
theorem tr_tr0 (R : Rw) (c w : Int32) : cw (tr G R) c w 3 = encG R := by
  rw [cw_a _ _ _ (by decide), tr_3]
theorem Rel.ask2 (h : Rel R1 R2 R3 K T SN SZ F G J) {R : Rw} (hG : G 1 = encG R) (S Rt : Rw) (ut dt c w : Int32) : Rel R1 (encL Rt ut dt) R3 K T SN SZ F (mG (cw (tr G S) c w) R) J := by
  obtain ⟨⟨R0, u0, d0, Rt0, ut0, dt0, Rk, uk, dk, T3, T4, T8, T9, hI0, e1, e2, e3, e4, e5, e6, e7, e8, e9, e10, e11⟩, h2, h3, h4⟩ := h
  unfold Rel tr
  simp (disch := decide) only [mG_a, mG_1, cw_a, cw_0j, st2_ne, st2_eq]
  rw [hG] at e4
  exact ⟨⟨R0, u0, d0, Rt, ut, dt, Rk, uk, dk, S, T4, T8, T9, hI0, e1, rfl, e3, e4, rfl, e6, e7, e8, e9, e10, e11⟩, h2, h3, h4⟩
theorem e_relief (h : Rel R1 R2 R3 K T SN SZ F G J) : ∃ r F' G', fX5_relief R1 R2 R3 K T SN SZ F = some (r, F') ∧ fX6_relief G J = some (r, G') ∧ Rel R1 R2 R3 K T SN SZ F' G' J := by
  obtain ⟨R, u, d, hI, rfl, hG⟩ := h.real
  obtain ⟨Rt, ut, dt, rfl⟩ := h.trial
  obtain ⟨T3, T4, T8, T9, e3, -⟩ := h.rows
  obtain ⟨c, w, q⟩ := m_next (J := J) e3 hI (by omega) (n := 200) (by omega)
  rw [mG_self hG] at q
  have ec : fX1_daysToRelief (200 : Int32) (encL R u d) = some (nI (rS R 200)) := c_rel hI (n := 200) (by omega)
  have eq' : fX6_nextRelief (200 : Int32) G J = some (nI (rS R 200), mG (cw (tr G R) c w) R) := q
  have hl := rS_le R 200
  unfold fX5_relief fX5_relief_c28 fX6_relief fX6_relief_c25
  rw [ec, bind_eq, eq', bind2_eq]
  by_cases hc : rS R 200 ≤ 200
  · have hc' : nI (rS R 200) ≤ (200 : Int32) := i_le (b := 200) (by omega) (by decide) hc
    rw [if_pos hc', if_pos hc']
    exact ⟨_, _, _, rfl, rfl, h.ask2 hG R Rt ut dt c w⟩
  · have hc' : ¬ nI (rS R 200) ≤ (200 : Int32) := i_nle (b := 200) (by omega) (by decide) (by omega)
    rw [if_neg hc', if_neg hc', c_tell3, m_find3, bind2_eq, bind2_eq]
    exact ⟨_, _, _, rfl, rfl, (h.ask2 hG R Rt ut dt c w).find 3⟩
theorem storm_lp {R1 : M2} (h : Rel R1 R2 R3 K T SN SZ F G J) {R : Rw} {u d : Int32} (hR : R1 = encL R u d) (hI : Inv 9999 R) (hG : G 1 = encG R) : ∀ m i fuel {S : Rw} {c w ut dt y z : Int32}, i + m = 28 → m < fuel → ∃ r R2' F' G', fX5_storm_c18 fuel z y (nI i) R1 (encL R ut dt) R3 K T SN SZ F = some (r, R2', F') ∧ fX6_storm_c11 fuel y z (nI i) (mG (cw (tr G S) c w) R) J = some (r, G') ∧ Rel R1 R2' R3 K T SN SZ F' G' J := by
  intro m
  induction m with
  | zero =>
    intro i fuel S c w ut dt y z hi hf
    obtain ⟨f, rfl⟩ : ∃ f, fuel = f + 1 := ⟨fuel - 1, by omega⟩
    have hg : (28 : Int32) ≤ nI i := i_le (a := 28) (by decide) (by omega) (by omega)
    rw [fX5_storm_c18, if_pos hg, fX6_storm_c11, if_pos hg]
    unfold fX5_storm_c81 fX5_storm_c95 fX6_storm_c79 fX6_storm_c93
    by_cases hy : 0 ≤ y
    · rw [if_pos hy, if_pos hy]
      exact ⟨_, _, _, _, rfl, rfl, h.ask2 hG S R ut dt c w⟩
    · rw [if_neg hy, if_neg hy, c_tell3, m_find3, bind2_eq, bind2_eq]
      exact ⟨_, _, _, _, rfl, rfl, (h.ask2 hG S R ut dt c w).find 3⟩
  | succ m ih =>
    intro i fuel S c w ut dt y z hi hf
    obtain ⟨f, rfl⟩ : ∃ f, fuel = f + 1 := ⟨fuel - 1, by omega⟩
    have hg : ¬ (28 : Int32) ≤ nI i := i_nle (a := 28) (by decide) (by omega) (by omega)
    have hJ : Inv 9999 (wr R (7 + i) 12) := by
      refine Inv.set hI ?_ (by omega)
      have e : bnd 9999 (7 + i) = 12 := by
        unfold bnd
        rw [if_neg (by omega), if_neg (by omega), if_neg (by omega), if_neg (by omega), if_neg (by omega), if_neg (by omega), if_neg (by omega), if_pos (by omega)]
      rw [e]; exact Nat.le_refl _
    have eback : wr (wr R (7 + i) 12) (7 + i) (R (7 + i)) = R := by rw [wr_wr, wr_same]
    have ec : fX1_daysToRelief (100 : Int32) (encL (wr R (7 + i) 12) ut dt) = some (nI (rS (wr R (7 + i) 12) 100)) := c_rel hJ (n := 100) (by omega)
    obtain ⟨c', w', hm⟩ := m_next (J := J) (tr_tr0 (G := G) S c w) hJ (by omega) (n := 100) (by omega)
    rw [tr_cw] at hm
    have hm' : fX6_nextRelief (100 : Int32) (mG (cw (tr G S) c w) (wr R (7 + i) 12)) J = some (nI (rS (wr R (7 + i) 12) 100), mG (cw (cw (tr G (wr R (7 + i) 12)) c w) c' w') (wr R (7 + i) 12)) := hm
    have eb : fX6_becomes ((7 : Int32) + nI i) (12 : Int32) (mG (cw (tr G S) c w) R) J = some (nI (R (7 + i)), mG (cw (tr G S) c w) (wr R (7 + i) 12)) := by
      rw [show (7 : Int32) + nI i = nI (7 + i) from n_add 7 i]
      exact m_becomes (v := 12) (by omega)
    rw [fX5_storm_c18, if_neg hg, g_inb (by omega) (by omega), n_cl (by omega), show (12 : Int32) = nI 12 from rfl, encL_s1 (by omega), letb_eq, ec, bind_eq, g_inb (by omega) (by omega), g_inb (by omega) (by omega), hR, encL_1 (by omega), encL_s1 (by omega), eback, letb_eq, ← hR]
    rw [fX6_storm_c11, if_neg hg, eb, bind2_eq, hm', bind2_eq, show (7 : Int32) + nI i = nI (7 + i) from n_add 7 i, g_inb (by omega) (by omega), n_cl (by omega), mG_s (by omega), eback, letb_eq, cw_cw]
    unfold fX5_storm_c75 fX6_storm_c59 fX6_storm_c72
    by_cases hq : z ≤ nI (rS (wr R (7 + i) 12) 100)
    · rw [if_pos hq, if_pos hq, if_pos hq, letb_eq, letb_eq, show nI i + (1 : Int32) = nI (i + 1) from n_add i 1]
      exact ih (i + 1) f (by omega) (by omega)
    · rw [if_neg hq, if_neg hq, if_neg hq, letb_eq, letb_eq, show nI i + (1 : Int32) = nI (i + 1) from n_add i 1]
      exact ih (i + 1) f (by omega) (by omega)
theorem e_storm (h : Rel R1 R2 R3 K T SN SZ F G J) : ∃ r R2' F' G', fX5_storm R1 R2 R3 K T SN SZ F = some (r, R2', F') ∧ fX6_storm G J = some (r, G') ∧ Rel R1 R2' R3 K T SN SZ F' G' J := by
  obtain ⟨R, u, d, hI, rfl, hG⟩ := h.real
  obtain ⟨Rt, ut, dt, rfl⟩ := h.trial
  obtain ⟨T3, T4, T8, T9, e3, -⟩ := h.rows
  obtain ⟨c, w, q⟩ := m_next (J := J) e3 hI (by omega) (n := 100) (by omega)
  rw [mG_self hG] at q
  have ec : fX1_daysToRelief (100 : Int32) (encL R u d) = some (nI (rS R 100)) := c_rel hI (n := 100) (by omega)
  have eq' : fX6_nextRelief (100 : Int32) G J = some (nI (rS R 100), mG (cw (tr G R) c w) R) := q
  unfold fX5_storm fX6_storm
  rw [c_start, bind_eq, ec, bind_eq, eq', bind2_eq]
  exact storm_lp h rfl hI hG 28 0 FU (S := R) (by omega) (by rw [FU_eq]; omega)
theorem rock_lp (h : Rel R1 R2 R3 K T SN SZ F G J) {R : Rw} (hI : Inv 9999 R) (hG : G 1 = encG R) {n : Nat} (hn : n ≤ 100) : ∀ i fuel {S : Rw} {a c w ut dt : Int32} {p q : Nat}, i ≤ 13 → i + 1 < fuel → ∃ r R2' F' G', fX5_rock_c24 fuel (nI n) (nI i + -1) R1 (encL (wr R 1 p) ut dt) R3 K T SN SZ F = some (r, R2', F') ∧ fX6_rock_c30 fuel (nI n) (nI (R 1)) (nI i) 0 (mG (cw (tr G S) c w) (wr R 1 q)) J = some (r, G') ∧ Rel R1 R2' R3 K T SN SZ F' G' J := by
  intro i
  have e68 : ∀ (y z : Int32) (S : Rw) (c w : Int32) (q : Nat), fX6_rock_c68 (nI (R 1)) y z (mG (cw (tr G S) c w) (wr R 1 q)) J = (if z = 0 then bind2 (fX6_finds (-1000000004) (mG (cw (tr G S) c w) R) J) (fun r G' => fX6_rock_c90 r G' J) else fX6_rock_c90 y (mG (cw (tr G S) c w) R) J) := by
    intro y z S c w q
    unfold fX6_rock_c68
    rw [show ∀ k : Option (Int32 × M2), grd (inb (1 : Int32) 75) k = k from fun _ => rfl, show (1 : Int32).toNatClampNeg = 1 from rfl, mG_s (by decide), wr_wr, wr_same, letb_eq]
  induction i with
  | zero =>
    intro fuel S a c w ut dt p q hi hf
    obtain ⟨f, rfl⟩ : ∃ f, fuel = f + 1 := ⟨fuel - 1, by omega⟩
    refine ⟨(-1000000004 : Int32), _, _, _, ?_, ?_, (h.ask2 hG S (wr R 1 p) ut dt c w).find 3⟩
    · rw [fX5_rock_c24, if_pos (show nI 0 + -1 < 0 by decide)]
      unfold fX5_rock_c56
      rw [c_tell3, bind2_eq]
    · rw [fX6_rock_c30, if_pos (show nI 0 ≤ 0 by decide), e68, ifp00, m_find3, bind2_eq]
      rfl
  | succ i ih =>
    intro fuel S a c w ut dt p q hi hf
    obtain ⟨f, rfl⟩ : ∃ f, fuel = f + 1 + 1 := ⟨fuel - 2, by omega⟩
    have e1 : nI (i + 1) + -1 = nI i := by
      rw [← n_add i 1, show nI 1 = (1 : Int32) from rfl, Int32.add_assoc, show (1 : Int32) + -1 = 0 from rfl, Int32.add_zero]
    have hJ : Inv 9999 (wr R 1 i) := Inv.set hI (show _ ≤ 12 by omega) (by omega)
    have hl := rS_le (wr R 1 i) n
    obtain ⟨c', w', hm⟩ := m_next (J := J) (tr_tr0 (G := G) S c w) hJ (by omega) (n := n) (by omega)
    rw [tr_cw, cw_cw] at hm
    rw [e1, fX5_rock_c24, if_neg (i_nneg (by omega)), encL_s0 (by decide), wr_wr, letb_eq, c_rel hJ (by omega), bind_eq]
    rw [fX6_rock_c30, if_neg (show ¬ nI (i + 1) ≤ 0 from i_nle (b := 0) (by omega) (by decide) (by omega)), ifp00, letb_eq, letb_eq, e1, show ∀ k : Option (Int32 × M2), grd (inb (1 : Int32) 75) k = k from fun _ => rfl, show (1 : Int32).toNatClampNeg = 1 from rfl, mG_s (by decide), wr_wr, letb_eq, hm, bind2_eq]
    unfold fX6_rock_c63
    by_cases hq : n < rS (wr R 1 i) n
    · have hq' : nI n < nI (rS (wr R 1 i) n) := i_lt (by omega) (by omega) hq
      rw [if_pos hq', if_pos hq']
      exact ih (f + 1) (a := 0) (by omega) (by omega)
    · have hq' : ¬ nI n < nI (rS (wr R 1 i) n) := i_nlt (by omega) (by omega) (by omega)
      rw [if_neg hq', if_neg hq']
      refine ⟨nI i, _, _, mG (cw (tr G (wr R 1 i)) c' w') R, rfl, ?_, h.ask2 hG (wr R 1 i) (wr R 1 i) ut dt c' w'⟩
      rw [fX6_rock_c30, ifn10, e68, ifn10]
      by_cases hz : nI i ≤ 0
      · rw [if_pos hz]; rfl
      · rw [if_neg hz]; rfl
theorem e_rock (h : Rel R1 R2 R3 K T SN SZ F G J) (x1 : Int32) : ∃ r R2' F' G', fX5_rock x1 R1 R2 R3 K T SN SZ F = some (r, R2', F') ∧ fX6_rock x1 G J = some (r, G') ∧ Rel R1 R2' R3 K T SN SZ F' G' J := by
  obtain ⟨R, u, d, hI, rfl, hG⟩ := h.real
  have h6 := hI.many
  obtain ⟨Rt, ut, dt, rfl⟩ := h.trial
  obtain ⟨T3, T4, T8, T9, e3, -⟩ := h.rows
  by_cases hp : (1 : Int32) ≤ x1 ∧ x1 ≤ 100
  · obtain ⟨n, -, hn2, rfl⟩ := rng (a := 1) (b := 100) (by decide) (by decide) hp
    obtain ⟨r, R2', F', G', q1, q2, q3⟩ := rock_lp h hI hG (n := n) hn2 13 FU (S := T3) (a := 0) (c := G 0 0) (w := G 0 1) (ut := ut) (dt := dt) (p := R 1) (q := R 1) (by omega) (by rw [FU_eq]; omega)
    have eG : tr G T3 = G := by unfold tr; rw [← e3, st2_same]
    rw [eG, cw_self, wr_same] at q2
    rw [wr_same] at q1
    refine ⟨r, R2', F', G', ?_, ?_, q3⟩
    · unfold fX5_rock
      rw [within_true hp, bind_eq, ifn10, c_start, bind_eq]
      exact q1
    · have q : fX6_rock (nI n) (mG G R) J = some (r, G') := by
        unfold fX6_rock
        rw [in_true hp, bind_eq, ifn10, show ∀ k : Option (Int32 × M2), grd (inb (1 : Int32) 75) k = k from fun _ => rfl, show (1 : Int32).toNatClampNeg = 1 from rfl, mG_r (by decide), letb_eq]
        exact q2
      rw [mG_self hG] at q; exact q
  · refine ⟨(-1000000001 : Int32), _, _, _, ?_, ?_, h.find 0⟩
    · simp only [fX5_rock, within_false hp, bind_eq, bind2_eq, ifn10, reduceIte, c_tell0]
    · have q : fX6_rock x1 (mG G R) J = some ((-1000000001 : Int32), st2 (mG G R) 2 (upd (mG G R 2) 0 (mG G R 2 0 + 1))) := by
        simp only [fX6_rock, in_false hp, bind_eq, bind2_eq, ifn10, reduceIte, m_find0]
      rw [mG_self hG] at q; exact q
end C7
