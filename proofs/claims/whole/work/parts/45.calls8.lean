section C8
variable {R1 R2 R3 : M2} {K : Int32} {T : M2} {SN : J2} {SZ : M2} {F : M1} {G : M2} {J : J2}
theorem up_2 (R : Rw) (v t up : Nat) : upS (wr R 2 v) t up = wr (upS R t up) 2 v := by
  unfold upS
  rw [wr_comm R (by omega), wr_comm _ (by omega)]
theorem dn_2 (R : Rw) (v t o : Nat) : dnS (wr R 2 v) t o = wr (dnS R t o) 2 v := by
  unfold dnS
  rw [wr_comm R (by omega), wr_comm _ (by omega)]
theorem met_2 (R : Rw) (v s up o : Nat) : metS (wr R 2 v) s up o = wr (metS R s up o) 2 v := by
  unfold metS
  simp (disch := omega) only [wr_ne]
  rw [wr_comm R (j := 2) (by omega), wr_comm _ (j := 2) (by omega), wr_comm _ (j := 2) (by omega), wr_comm _ (j := 2) (by omega)]
theorem rel_2 (R : Rw) (v s up b : Nat) : relS (wr R 2 v) s up b = wr (relS R s up b) 2 (cap (v + brS (R (35 + 5 * up)) s)) := by
  have e : oilS (wr R 2 v) s up = wr (oilS R s up) 2 (cap (v + brS (R (35 + 5 * up)) s)) := by
    unfold oilS
    rw [wr_wr, wr_wr, wr_eq, wr_ne _ _ (by omega)]
  unfold relS
  rw [e, wr_ne _ _ (by omega)]
  split
  · rw [up_2]
  · rw [met_2, dn_2, up_2]
theorem rel_at2 (R : Rw) (s up b : Nat) : relS R s up b 2 = cap (R 2 + brS (R (35 + 5 * up)) s) := by
  unfold relS upS dnS metS
  split
  · rw [wr_ne _ _ (by omega), wr_ne _ _ (by omega)]
    exact wr_eq _ _ _
  · simp (disch := omega) only [wr_ne]
    exact wr_eq _ _ _
theorem cap_mono {a b : Nat} (h : a ≤ b) : cap a ≤ cap b := by
  unfold cap
  split <;> split <;> omega
theorem burn_2 {R : Rw} (need v : Nat) (hv : R 2 ≤ v) (h5 : burnS R need 5 = R 5) : ∃ v', burnS (wr R 2 v) need = wr (burnS R need) 2 v' ∧ burnS R need 2 ≤ v' := by
  unfold burnS at h5 ⊢
  rw [wr_eq]
  by_cases hn : need ≤ R 2
  · rw [if_pos hn, if_pos (Nat.le_trans hn hv), wr_wr]
    exact ⟨v - need, by rw [wr_wr], by rw [wr_eq]; omega⟩
  · rw [if_neg hn] at h5 ⊢
    rw [wr_ne _ _ (by decide), wr_eq] at h5
    rw [wr_ne _ _ (by decide), h5, wr_same]
    by_cases hm : need ≤ v
    · rw [if_pos hm, wr_wr]
      exact ⟨v - need, by rw [wr_wr], by rw [wr_eq]; omega⟩
    · rw [if_neg hm]
      refine ⟨0, ?_, by rw [wr_eq]; exact Nat.le_refl _⟩
      rw [wr_wr]
      have e : wr (wr R 2 v) 5 (R 5) = wr R 2 v := by
        rw [wr_comm _ (by decide), wr_same]
      rw [e, wr_wr]
theorem gale_2 (R : Rw) (v s : Nat) (hv : R 2 ≤ v) : ∃ v', (galeS (wr R 2 v) s).1 = wr (galeS R s).1 2 v' ∧ (galeS R s).1 2 ≤ v' := by
  unfold galeS
  rw [wr_ne R v (show 4 ≠ 2 by decide), fstS_wr R v 0 (by decide) (by decide), outS_wr R v (by decide) (by decide) (by decide)]
  by_cases h3 : R 4 + 1 < 3
  · rw [if_pos h3, if_pos h3]
    refine ⟨v, ?_, ?_⟩
    · show wr (wr R 2 v) 4 (R 4 + 1) = wr (wr R 4 (R 4 + 1)) 2 v
      rw [wr_comm _ (by decide)]
    · show wr R 4 (R 4 + 1) 2 ≤ v
      rw [wr_ne _ _ (by decide)]; exact hv
  · rw [if_neg h3, if_neg h3]
    by_cases hf : fstS R 0 = 0
    · rw [if_pos hf, if_pos hf]
      refine ⟨v, ?_, ?_⟩
      · show wr (wr R 2 v) 4 2 = wr (wr R 4 2) 2 v
        rw [wr_comm _ (by decide)]
      · show wr R 4 2 2 ≤ v
        rw [wr_ne _ _ (by decide)]; exact hv
    · rw [if_neg hf, if_neg hf]
      refine ⟨cap (v + brS (wr R 4 0 (35 + 5 * (fstS R 0 - 1))) s), ?_, ?_⟩
      · show relS (wr (wr R 2 v) 4 0) s (fstS R 0 - 1) (outS R) = wr (relS (wr R 4 0) s (fstS R 0 - 1) (outS R)) 2 _
        rw [wr_comm _ (by decide), rel_2]
      · show relS (wr R 4 0) s (fstS R 0 - 1) (outS R) 2 ≤ _
        rw [rel_at2, wr_ne R 0 (show 2 ≠ 4 by decide)]
        exact cap_mono (by omega)
theorem day_2 {R : Rw} (v : Nat) (hv : R 2 ≤ v) (h5 : (dayS R).1 5 = R 5) : ∃ v', (dayS (wr R 2 v)).1 = wr (dayS R).1 2 v' ∧ (dayS R).1 2 ≤ v' := by
  have hs : secS (wr R 2 v) (wr R 2 v 0) = secS R (R 0) := by
    unfold secS
    rw [wr_ne _ _ (show 0 ≠ 2 by decide), wr_ne _ _ (show 1 ≠ 2 by decide), wr_ne _ _ (by omega)]
  have hb5 : burnS R (usAll R) 5 = R 5 := by
    unfold dayS at h5
    by_cases h0 : secS R (R 0) = 0
    · rw [if_pos h0] at h5
      have h5' : wr (burnS R (usAll R)) 0 (R 0 + 1) 5 = R 5 := h5
      rw [wr_ne _ _ (by decide)] at h5'
      exact h5'
    · rw [if_neg h0] at h5
      have h5' : wr (galeS (burnS R (usAll R)) (secS R (R 0))).1 0 (R 0 + 1) 5 = R 5 := h5
      rw [wr_ne _ _ (by decide), galeS_5] at h5'
      exact h5'
  obtain ⟨v1, b1, b2⟩ := burn_2 (usAll R) v hv hb5
  unfold dayS
  rw [hs, usAll_wr R v (by decide) (by decide), b1, wr_ne R v (show 0 ≠ 2 by decide)]
  by_cases h0 : secS R (R 0) = 0
  · rw [if_pos h0, if_pos h0]
    refine ⟨v1, ?_, ?_⟩
    · show wr (wr (burnS R (usAll R)) 2 v1) 0 (R 0 + 1) = wr (wr (burnS R (usAll R)) 0 (R 0 + 1)) 2 v1
      rw [wr_comm _ (by decide)]
    · show wr (burnS R (usAll R)) 0 (R 0 + 1) 2 ≤ v1
      rw [wr_ne _ _ (by decide)]; exact b2
  · rw [if_neg h0, if_neg h0]
    obtain ⟨v2, g1, g2⟩ := gale_2 (burnS R (usAll R)) v1 (secS R (R 0)) b2
    refine ⟨v2, ?_, ?_⟩
    · show wr (galeS (wr (burnS R (usAll R)) 2 v1) (secS R (R 0))).1 0 (R 0 + 1) = wr (wr (galeS (burnS R (usAll R)) (secS R (R 0))).1 0 (R 0 + 1)) 2 v2
      rw [g1, wr_comm _ (by decide)]
    · show wr (galeS (burnS R (usAll R)) (secS R (R 0))).1 0 (R 0 + 1) 2 ≤ v2
      rw [wr_ne _ _ (by decide)]; exact g2
theorem dn_5 : ∀ n {D : Nat} {R : Rw}, Inv D R → D + n < 100000 → R 5 ≤ dn R n 5 := by
  intro n
  induction n with
  | zero => intro D R _ _; exact Nat.le_refl _
  | succ n ih =>
    intro D R hI hD
    exact Nat.le_trans (dayS_5 hI.dark) (ih (day_inv hI (by omega)) (by omega))
theorem dn_mono : ∀ n {D : Nat} {R : Rw} {v : Nat}, Inv D R → D + n < 100000 → R 2 ≤ v → dn R n 5 = R 5 → dn (wr R 2 v) n 5 = R 5 := by
  intro n
  induction n with
  | zero => intro D R v _ _ _ _; exact wr_ne _ _ (by decide)
  | succ n ih =>
    intro D R v hI hD hv h5
    have hJ := day_inv hI (by omega)
    have a1 := dayS_5 hI.dark
    have a2 := dn_5 n hJ (by omega)
    have h5' : dn (dayS R).1 n 5 = R 5 := h5
    have e5 : (dayS R).1 5 = R 5 := by omega
    obtain ⟨v', q1, q2⟩ := day_2 v hv e5
    show dn (dayS (wr R 2 v)).1 n 5 = R 5
    rw [q1, ih hJ (by omega) q2 (by omega), e5]
theorem lit_mono {R : Rw} (hI : Inv 9999 R) {n x y : Nat} (hn : n ≤ 300) (hx : x ≤ 999) (hxy : x ≤ y) (h : dn (wr R 2 x) n 5 = R 5) : dn (wr R 2 y) n 5 = R 5 := by
  have hJ : Inv 9999 (wr R 2 x) := Inv.set hI (show _ ≤ 9999 by omega) (by omega)
  have e := dn_mono n (v := y) hJ (by omega) (by rw [wr_eq]; exact hxy) (by rw [h, wr_ne _ _ (by decide)])
  rw [wr_wr, wr_ne _ _ (by decide)] at e
  exact e
theorem c_lit {R Rt : Rw} {u d ut dt : Int32} (hI : Inv 9999 R) {n x : Nat} (hn : n ≤ 300) (hx : x ≤ 999) : ∃ u' d', fX5_staysLit (nI x) (nI n) (encL R u d) (encL Rt ut dt) R3 K T SN SZ F = some (if dn (wr R 2 x) n 5 = R 5 then 1 else 0, encL (dn (wr R 2 x) n) u' d') := by
  have hJ : Inv 9999 (wr R 2 x) := Inv.set hI (show _ ≤ 9999 by omega) (by omega)
  have hJn := dn_inv (D := 0) n hJ (by omega)
  have h1 := hJn.dark
  have h2 := hI.dark
  obtain ⟨u', d', hc⟩ := c_days (u := ut) (d := dt) hJ (n := n) hn (by omega)
  refine ⟨u', d', ?_⟩
  unfold fX5_staysLit fX5_staysLit_c42
  rw [c_start, bind_eq, encL_s0 (by decide), letb_eq, hc, bind_eq, encL_0 (by decide), encL_0 (by decide)]
  by_cases hq : dn (wr R 2 x) n 5 = R 5
  · rw [if_pos hq, if_pos (by rw [hq])]
    rfl
  · rw [if_neg hq, if_neg (i_ne (by omega) (by omega) hq)]
    rfl
theorem c_en_lp {R : Rw} {u d : Int32} (hI : Inv 9999 R) {n e : Nat} (hn : n ≤ 300) (he : dn (wr R 2 e) n 5 = R 5) (hl : ∀ y, y < e → ¬ dn (wr R 2 y) n 5 = R 5) : ∀ m lo hi t fuel {S : Rw} {ut dt : Int32}, hi - lo ≤ m → lo ≤ e → e ≤ hi → hi ≤ 999 → t + (hi - lo) ≤ 999 → m < fuel → ∃ Rt ut' dt', fX5_enough_c44 fuel (nI n) (nI lo) (nI hi) (nI t) (encL R u d) (encL S ut dt) R3 K T SN SZ F = some (nI e, encL Rt ut' dt', F) := by
  intro m
  induction m with
  | zero =>
    intro lo hi t fuel S ut dt h1 h2 h3 h4 h5 hf
    obtain ⟨f, rfl⟩ : ∃ f, fuel = f + 1 := ⟨fuel - 1, by omega⟩
    have eh : hi = e := by omega
    refine ⟨S, ut, dt, ?_⟩
    rw [fX5_enough_c44, if_pos (show nI hi ≤ nI lo from i_le (by omega) (by omega) (by omega)), eh]
    unfold fX5_enough_c91
    split <;> rfl
  | succ m ih =>
    intro lo hi t fuel S ut dt h1 h2 h3 h4 h5 hf
    obtain ⟨f, rfl⟩ : ∃ f, fuel = f + 1 := ⟨fuel - 1, by omega⟩
    by_cases hle : hi ≤ lo
    · have eh : hi = e := by omega
      refine ⟨S, ut, dt, ?_⟩
      rw [fX5_enough_c44, if_pos (show nI hi ≤ nI lo from i_le (by omega) (by omega) (by omega)), eh]
      unfold fX5_enough_c91
      split <;> rfl
    · have emid : (nI lo + nI hi) / (2 : Int32) = nI ((lo + hi) / 2) := by
        rw [n_add]; exact n_div (d := 2) (by omega) (by decide) (by decide)
      obtain ⟨u', d', hc⟩ := c_lit (R3 := R3) (K := K) (T := T) (SN := SN) (SZ := SZ) (F := F) (R := R) (Rt := S) (u := u) (d := d) (ut := ut) (dt := dt) hI (n := n) (x := (lo + hi) / 2) hn (by omega)
      rw [fX5_enough_c44, if_neg (show ¬ (999 : Int32) ≤ nI t from i_nle (a := 999) (by decide) (by omega) (by omega)), if_neg (show ¬ nI hi ≤ nI lo from i_nle (by omega) (by omega) (by omega)), emid, letb_eq, hc, bind2_eq]
      unfold fX5_enough_c85
      by_cases hq : dn (wr R 2 ((lo + hi) / 2)) n 5 = R 5
      · have hme : e ≤ (lo + hi) / 2 := Nat.le_of_not_lt (fun hh => hl _ hh hq)
        rw [if_pos hq, ifn10, letb_eq, show nI t + (1 : Int32) = nI (t + 1) from n_add t 1]
        exact ih lo ((lo + hi) / 2) (t + 1) f (by omega) h2 hme (by omega) (by omega) (by omega)
      · have hme : (lo + hi) / 2 < e := Nat.lt_of_not_le (fun hh => hq (lit_mono hI hn (by omega) hh he))
        rw [if_neg hq, ifp00, letb_eq, letb_eq, show nI t + (1 : Int32) = nI (t + 1) from n_add t 1, show nI ((lo + hi) / 2) + (1 : Int32) = nI ((lo + hi) / 2 + 1) from n_add _ 1]
        exact ih ((lo + hi) / 2 + 1) hi (t + 1) f (by omega) (by omega) h3 h4 (by omega) (by omega)
theorem m_en_in {R : Rw} (hd : R 5 ≤ 9999) {n : Nat} (hn : n ≤ 300) (k : Int32 → Int32 → Int32 → M2 → J2 → Option (Int32 × M2)) (v : Int32) : ∀ m j fuel {D : Nat} {S : Rw} {c w : Int32}, j + m = n → m + 1 < fuel → Inv D S → D + m < 99998 → S 5 = R 5 → ∃ c' w', fX6_enough_c56 k fuel (nI n) v 1 (nI j) (mG (cw (tr G R) c w) S) J = k (nI n) v (if dn S m 5 = R 5 then 1 else 0) (mG (cw (tr G R) c' w') R) J := by
  intro m
  induction m with
  | zero =>
    intro j fuel D S c w hi hf hI hD h5
    obtain ⟨f, rfl⟩ : ∃ f, fuel = f + 1 := ⟨fuel - 1, by omega⟩
    refine ⟨c, w, ?_⟩
    rw [fX6_enough_c56, if_pos (i_le (by omega) (by omega) (by omega))]
    unfold fX6_enough_c97
    rw [m_back, bind_eq, show dn S 0 5 = S 5 from rfl, if_pos h5]
  | succ m ih =>
    intro j fuel D S c w hi hf hI hD h5
    obtain ⟨f, rfl⟩ : ∃ f, fuel = f + 1 + 1 := ⟨fuel - 2, by omega⟩
    have hJ := day_inv hI (by omega)
    have a1 := dayS_5 hI.dark
    have a2 := dn_5 m hJ (by omega)
    have a3 := hJ.dark
    rw [fX6_enough_c56, if_neg (i_nle (by omega) (by omega) (by omega)), ifn10, m_day hI (by omega), bind_eq, cw_cw, show ∀ k : Option (Int32 × M2), grd (inb (5 : Int32) 75) k = k from fun _ => rfl, show ∀ k : Option (Int32 × M2), grd (inb (5 : Int32) 75) k = k from fun _ => rfl, show (5 : Int32).toNatClampNeg = 5 from rfl, mG_r (by decide), mG_a (by decide), tr_tr0, encG_at (by decide)]
    unfold fX6_enough_c90
    rw [letb_eq, letb_eq, show nI j + (1 : Int32) = nI (j + 1) from n_add j 1]
    show ∃ c' w', _ = k (nI n) v (if dn (dayS S).1 m 5 = R 5 then 1 else 0) _ J
    by_cases hq : (dayS S).1 5 = R 5
    · rw [if_pos (show nI ((dayS S).1 5) = nI (R 5) by rw [hq])]
      exact ih (j + 1) (f + 1) (by omega) (by omega) hJ (by omega) hq
    · rw [if_neg (show ¬ nI ((dayS S).1 5) = nI (R 5) from i_ne (by omega) (by omega) hq), if_neg (show ¬ dn (dayS S).1 m 5 = R 5 by omega)]
      refine ⟨eB (dayS S).2.1, eB (dayS S).2.2, ?_⟩
      rw [fX6_enough_c56, ifp00]
      unfold fX6_enough_c97
      rw [m_back, bind_eq]
      split <;> rfl
theorem en_y {x : Nat} (hx : x ≤ 999) : ¬ (999 : Int32) ≤ nI x + -1 := by
  cases x with
  | zero => decide
  | succ k =>
    rw [← n_add k 1, show nI 1 = (1 : Int32) from rfl, Int32.add_assoc, show (1 : Int32) + -1 = 0 from rfl, Int32.add_zero]
    exact i_nle (a := 999) (by decide) (by omega) (by omega)
theorem en_1 (x : Nat) : nI x + -1 + 1 = nI x := by
  rw [Int32.add_assoc, show (-1 : Int32) + 1 = 0 from rfl, Int32.add_zero]
theorem en_s (x : Nat) : nI (x + 1) + -1 = nI x := by
  rw [← n_add x 1, show nI 1 = (1 : Int32) from rfl, Int32.add_assoc, show (1 : Int32) + -1 = 0 from rfl, Int32.add_zero]
theorem m_en_step {R : Rw} (hI : Inv 9999 R) {n x : Nat} (hn : n ≤ 300) (hx : x ≤ 999) (f : Nat) (c w : Int32) : ∃ c' w', fX6_enough_c30 (f + 1) (nI n) (nI x + -1) 0 (mG (cw (tr G R) c w) R) J = fX6_enough_c30 f (nI n) (nI x) (if dn (wr R 2 x) n 5 = R 5 then 1 else 0) (mG (cw (tr G R) c' w') R) J := by
  have hJ : Inv 9999 (wr R 2 x) := Inv.set hI (show _ ≤ 9999 by omega) (by omega)
  obtain ⟨c', w', q⟩ := m_en_in (G := G) (J := J) hI.dark hn (fX6_enough_c30 f) (nI x) n 0 FU (S := wr R 2 x) (c := c) (w := w) (by omega) (by rw [FU_eq]; omega) hJ (by omega) (wr_ne _ _ (by decide))
  refine ⟨c', w', ?_⟩
  rw [fX6_enough_c30, if_neg (en_y hx), ifp00, letb_eq, en_1, show ∀ k : Option (Int32 × M2), grd (inb (2 : Int32) 75) k = k from fun _ => rfl, show (2 : Int32).toNatClampNeg = 2 from rfl, mG_s (by decide), letb_eq]
  exact q
theorem m_en_none {R : Rw} (hI : Inv 9999 R) {n : Nat} (hn : n ≤ 300) (hno : ∀ y, y ≤ 999 → ¬ dn (wr R 2 y) n 5 = R 5) : ∀ m x fuel {c w : Int32}, x + m = 1000 → m < fuel → ∃ c' w', fX6_enough_c30 fuel (nI n) (nI x + -1) 0 (mG (cw (tr G R) c w) R) J = some ((-1000000004 : Int32), st2 (mG (cw (tr G R) c' w') R) 2 (upd (mG (cw (tr G R) c' w') R 2) 3 (mG (cw (tr G R) c' w') R 2 3 + 1))) := by
  intro m
  induction m with
  | zero =>
    intro x fuel c w hx hf
    obtain ⟨f, rfl⟩ : ∃ f, fuel = f + 1 := ⟨fuel - 1, by omega⟩
    have ex : x = 999 + 1 := by omega
    refine ⟨c, w, ?_⟩
    rw [ex, en_s, fX6_enough_c30, if_pos (show (999 : Int32) ≤ nI 999 by decide)]
    unfold fX6_enough_c109 fX6_enough_c123
    rw [ifp00, m_find3, bind2_eq]
  | succ m ih =>
    intro x fuel c w hx hf
    obtain ⟨f, rfl⟩ : ∃ f, fuel = f + 1 := ⟨fuel - 1, by omega⟩
    obtain ⟨c1, w1, q⟩ := m_en_step (G := G) (J := J) hI (n := n) (x := x) hn (by omega) f c w
    rw [q, if_neg (hno x (by omega)), ← en_s x]
    exact ih (x + 1) f (by omega) (by omega)
theorem m_en_some {R : Rw} (hI : Inv 9999 R) {n e : Nat} (hn : n ≤ 300) (he9 : e ≤ 999) (he : dn (wr R 2 e) n 5 = R 5) (hl : ∀ y, y < e → ¬ dn (wr R 2 y) n 5 = R 5) : ∀ m x fuel {c w : Int32}, x + m = e → m + 1 < fuel → ∃ c' w', fX6_enough_c30 fuel (nI n) (nI x + -1) 0 (mG (cw (tr G R) c w) R) J = some (nI e, mG (cw (tr G R) c' w') R) := by
  intro m
  induction m with
  | zero =>
    intro x fuel c w hx hf
    obtain ⟨f, rfl⟩ : ∃ f, fuel = f + 1 + 1 := ⟨fuel - 2, by omega⟩
    have ex : x = e := by omega
    obtain ⟨c1, w1, q⟩ := m_en_step (G := G) (J := J) hI (n := n) (x := e) hn he9 (f + 1) c w
    refine ⟨c1, w1, ?_⟩
    rw [ex, q, if_pos he, fX6_enough_c30, ifn10]
    unfold fX6_enough_c109 fX6_enough_c123
    rw [ifn10]
    split <;> rfl
  | succ m ih =>
    intro x fuel c w hx hf
    obtain ⟨f, rfl⟩ : ∃ f, fuel = f + 1 := ⟨fuel - 1, by omega⟩
    obtain ⟨c1, w1, q⟩ := m_en_step (G := G) (J := J) hI (n := n) (x := x) hn (by omega) f c w
    rw [q, if_neg (hl x (by omega)), ← en_s x]
    exact ih (x + 1) f (by omega) (by omega)
theorem least_of (P : Nat → Prop) : ∀ m, P m → ∃ e, e ≤ m ∧ P e ∧ ∀ y, y < e → ¬ P y := by
  intro m
  induction m using Nat.strongRecOn with
  | _ m ih =>
    intro h
    by_cases hq : ∃ y, y < m ∧ P y
    · obtain ⟨y, hy, hp⟩ := hq
      obtain ⟨e, h1, h2, h3⟩ := ih y hy hp
      exact ⟨e, by omega, h2, h3⟩
    · exact ⟨m, Nat.le_refl _, h, fun y hy hp => hq ⟨y, hy, hp⟩⟩
theorem e_enough (h : Rel R1 R2 R3 K T SN SZ F G J) (x1 : Int32) : ∃ r R2' F' G', fX5_enough x1 R1 R2 R3 K T SN SZ F = some (r, R2', F') ∧ fX6_enough x1 G J = some (r, G') ∧ Rel R1 R2' R3 K T SN SZ F' G' J := by
  obtain ⟨R, u, d, hI, rfl, hG⟩ := h.real
  have h6 := hI.many
  obtain ⟨Rt, ut, dt, rfl⟩ := h.trial
  by_cases hp : (1 : Int32) ≤ x1 ∧ x1 ≤ 60
  · obtain ⟨n, -, hn2, rfl⟩ := rng (a := 1) (b := 60) (by decide) (by decide) hp
    obtain ⟨c, w, hc⟩ := m_tryc h (R := R)
    obtain ⟨u', d', hs⟩ := c_lit (R3 := R3) (K := K) (T := T) (SN := SN) (SZ := SZ) (F := F) (R := R) (Rt := Rt) (u := u) (d := d) (ut := ut) (dt := dt) hI (n := n) (x := 999) (by omega) (by omega)
    have hs' : fX5_staysLit (999 : Int32) (nI n) (encL R u d) (encL Rt ut dt) R3 K T SN SZ F = some (if dn (wr R 2 999) n 5 = R 5 then 1 else 0, encL (dn (wr R 2 999) n) u' d') := hs
    by_cases h9 : dn (wr R 2 999) n 5 = R 5
    · obtain ⟨e, he1, he2, he3⟩ := least_of (fun y => dn (wr R 2 y) n 5 = R 5) 999 h9
      obtain ⟨S, us, ds, q1⟩ := c_en_lp (R3 := R3) (K := K) (T := T) (SN := SN) (SZ := SZ) (F := F) (u := u) (d := d) hI (n := n) (e := e) (by omega) he2 he3 999 0 999 0 FU (S := dn (wr R 2 999) n) (ut := u') (dt := d') (by omega) (by omega) he1 (by omega) (by omega) (by rw [FU_eq]; omega)
      obtain ⟨c1, w1, q2⟩ := m_en_some (G := G) (J := J) hI (n := n) (e := e) (by omega) he1 he2 he3 e 0 FU (c := c) (w := w) (by omega) (by rw [FU_eq]; omega)
      refine ⟨nI e, _, _, _, ?_, ?_, h.ask hG S us ds c1 w1⟩
      · unfold fX5_enough
        rw [within_true hp, bind_eq, ifn10, hs', bind2_eq, if_pos h9, ifn10]
        exact q1
      · have q : fX6_enough (nI n) (mG G R) J = some (nI e, mG (cw (tr G R) c1 w1) R) := by
          unfold fX6_enough
          rw [in_true hp, bind_eq, ifn10, hc, bind_eq]
          exact q2
        rw [mG_self hG] at q; exact q
    · obtain ⟨c1, w1, q2⟩ := m_en_none (G := G) (J := J) hI (n := n) (by omega) (fun y hy hh => h9 (lit_mono hI (by omega) hy hy hh)) 1000 0 FU (c := c) (w := w) (by omega) (by rw [FU_eq]; omega)
      refine ⟨(-1000000004 : Int32), _, _, _, ?_, ?_, (h.ask hG (dn (wr R 2 999) n) u' d' c1 w1).find 3⟩
      · unfold fX5_enough
        rw [within_true hp, bind_eq, ifn10, hs', bind2_eq, if_neg h9, ifp00, c_tell3, bind2_eq]
      · rw [mG_self hG] at hc
        unfold fX6_enough
        rw [in_true hp, bind_eq, ifn10, hc, bind_eq]
        exact q2
  · refine ⟨(-1000000001 : Int32), _, _, _, ?_, ?_, h.find 0⟩
    · simp only [fX5_enough, within_false hp, bind_eq, bind2_eq, ifn10, reduceIte, c_tell0]
    · have q : fX6_enough x1 (mG G R) J = some ((-1000000001 : Int32), st2 (mG G R) 2 (upd (mG G R 2) 0 (mG G R 2 0 + 1))) := by
        simp only [fX6_enough, in_false hp, bind_eq, bind2_eq, ifn10, reduceIte, m_find0]
      rw [mG_self hG] at q; exact q
end C8
