-- ===== days by number =====
def dn (R : Rw) : Nat → Rw
  | 0 => R
  | n + 1 => dn (dayS R).1 n
theorem dn_inv {D : Nat} : ∀ (n : Nat) {D : Nat} {R : Rw}, Inv D R → D + n < 100000 → Inv (D + n) (dn R n) := by
  intro n
  induction n with
  | zero => intro D R h _; exact h
  | succ n ih =>
    intro D R h hD
    have h2 := ih (day_inv h (by omega)) (by omega)
    rw [show D + 1 + n = D + (n + 1) by omega] at h2
    exact h2
theorem dn_s (R : Rw) : ∀ n, dn R (n + 1) = (dayS (dn R n)).1 := by
  intro n
  induction n generalizing R with
  | zero => rfl
  | succ n ih =>
    show dn (dayS R).1 (n + 1) = (dayS (dn (dayS R).1 n)).1
    exact ih _
theorem cw_self (G : M2) : cw G (G 0 0) (G 0 1) = G := by
  unfold cw
  rw [upd_same]
  rw [show upd (G 0) 1 (G 0 1) = G 0 from upd_same _ _]
  exact st2_same G 0
theorem c_days_lp {x : Nat} (hx : x < 2147483648) : ∀ m i fuel {D : Nat} {R : Rw} {u d : Int32}, i + m = x → m < fuel → Inv D R → D + m < 100000 → ∃ u' d', fX1_passDays_c2 fuel (nI x) (nI i) (encL R u d) = some (encL (dn R m) u' d') := by
  intro m
  induction m with
  | zero =>
    intro i fuel D R u d hi hf hI hD
    cases fuel with
    | zero => omega
    | succ n =>
      refine ⟨u, d, ?_⟩
      rw [fX1_passDays_c2, if_pos (i_le hx (by omega) (by omega))]; rfl
  | succ m ih =>
    intro i fuel D R u d hi hf hI hD
    cases fuel with
    | zero => omega
    | succ n =>
      obtain ⟨u', d', h⟩ := ih (i + 1) n (u := upI (dayS R)) (d := eB (dayS R).2.2) (by omega) (by omega) (day_inv hI (by omega)) (by omega)
      refine ⟨u', d', ?_⟩
      rw [fX1_passDays_c2, if_neg (i_nle hx (by omega) (by omega)), c_day hI (by omega), bind_eq, letb_eq, show nI i + (1 : Int32) = nI (i + 1) from n_add i 1, h]
      rfl
theorem c_days {D n : Nat} {R : Rw} {u d : Int32} (hI : Inv D R) (hn : n ≤ 300) (hD : D + n < 100000) : ∃ u' d', fX1_passDays (nI n) (encL R u d) = some (encL (dn R n) u' d') := c_days_lp (by omega) n 0 FU (by omega) (by rw [FU_eq]; omega) hI hD
theorem m_days_lp {x : Nat} (hx : x < 2147483648) {J : J2} : ∀ m i fuel {D : Nat} {R : Rw} {G : M2}, i + m = x → m < fuel → Inv D R → D + m < 100000 → ∃ c w, fX6_passes_c2 fuel (nI x) (nI i) (mG G R) J = some (mG (cw G c w) (dn R m)) := by
  intro m
  induction m with
  | zero =>
    intro i fuel D R G hi hf hI hD
    cases fuel with
    | zero => omega
    | succ n =>
      refine ⟨G 0 0, G 0 1, ?_⟩
      rw [fX6_passes_c2, if_pos (i_le hx (by omega) (by omega)), cw_self]; rfl
  | succ m ih =>
    intro i fuel D R G hi hf hI hD
    cases fuel with
    | zero => omega
    | succ n =>
      obtain ⟨c, w, h⟩ := ih (i + 1) n (G := cw G (eB (dayS R).2.1) (eB (dayS R).2.2)) (by omega) (by omega) (day_inv hI (by omega)) (by omega)
      refine ⟨c, w, ?_⟩
      rw [fX6_passes_c2, if_neg (i_nle hx (by omega) (by omega)), m_day hI (by omega), bind_eq, letb_eq, show nI i + (1 : Int32) = nI (i + 1) from n_add i 1, h, cw_cw]
      rfl
theorem m_days {D n : Nat} {R : Rw} {G : M2} {J : J2} (hI : Inv D R) (hn : n ≤ 300) (hD : D + n < 100000) : ∃ c w, fX6_passes (nI n) (mG G R) J = some (mG (cw G c w) (dn R n)) := m_days_lp (by omega) n 0 FU (by omega) (by rw [FU_eq]; omega) hI hD
-- ===== moving the row =====
def mix (R T : Rw) (i : Nat) : Rw := fun j => if j < i then R j else T j
theorem mix_0 (R T : Rw) : mix R T 0 = T := by funext j; exact if_neg (Nat.not_lt_zero j)
theorem mix_s (R T : Rw) (i : Nat) : wr (mix R T i) i (R i) = mix R T (i + 1) := by
  funext j
  by_cases h : j = i
  · subst h
    rw [wr_eq]
    exact (if_pos (Nat.lt_succ_self j)).symm
  · rw [wr_ne _ _ h]
    unfold mix
    by_cases h2 : j < i
    · rw [if_pos h2, if_pos (by omega)]
    · rw [if_neg h2, if_neg (by omega)]
theorem mix_75 (R T : Rw) : encG (mix R T 75) = encG R := by
  funext j
  unfold encG mix
  by_cases h : j < 75
  · rw [if_pos h, if_pos h, if_pos h]
  · rw [if_neg h, if_neg h]
theorem mv3_1lp {R T : Rw} {J : J2} : ∀ m i fuel {G : M2}, i + m = 75 → m < fuel → G 1 = encG R → G 3 = encG (mix R T i) → fX6_moveAll_p3_c2 fuel (1 : Int32) (nI i) G J = some (st2 G 3 (encG R)) := by
  intro m
  induction m with
  | zero =>
    intro i fuel G hi hf h1 h2
    cases fuel with
    | zero => omega
    | succ n =>
      rw [fX6_moveAll_p3_c2, if_pos (show (75 : Int32) ≤ nI i from i_le (a := 75) (by decide) (by omega) (by omega))]
      have e : i = 75 := by omega
      subst e
      rw [mix_75] at h2
      show some G = _
      rw [← h2, st2_same]
  | succ m ih =>
    intro i fuel G hi hf h1 h2
    cases fuel with
    | zero => omega
    | succ n =>
      rw [fX6_moveAll_p3_c2, if_neg (show ¬ (75 : Int32) ≤ nI i from i_nle (a := 75) (by decide) (by omega) (by omega)), if_neg (by decide), g_inb (by omega) (by omega), g_inb (by omega) (by omega), letb_eq, n_cl (by omega), h1, encG_at (by omega), h2, encG_st (by omega), mix_s]
      unfold fX6_moveAll_p3_c33
      rw [letb_eq, show nI i + (1 : Int32) = nI (i + 1) from n_add i 1, ih (i + 1) n (by omega) (by omega) (by rw [st2_ne _ _ (by decide)]; exact h1) (by rw [st2_eq]), st2_st2]
theorem mv3_1 {R T : Rw} {G : M2} {J : J2} (h1 : G 1 = encG R) (h2 : G 3 = encG T) : fX6_moveAll_p3 (1 : Int32) G J = some (st2 G 3 (encG R)) := mv3_1lp 75 0 FU (by omega) (by rw [FU_eq]; omega) h1 (by rw [mix_0]; exact h2)
theorem mv3_0lp {R T : Rw} {J : J2} : ∀ m i fuel {G : M2}, i + m = 75 → m < fuel → G 3 = encG T → G 1 = encG (mix T R i) → fX6_moveAll_p3_c2 fuel (0 : Int32) (nI i) G J = some (st2 G 1 (encG T)) := by
  intro m
  induction m with
  | zero =>
    intro i fuel G hi hf h1 h2
    cases fuel with
    | zero => omega
    | succ n =>
      rw [fX6_moveAll_p3_c2, if_pos (show (75 : Int32) ≤ nI i from i_le (a := 75) (by decide) (by omega) (by omega))]
      have e : i = 75 := by omega
      subst e
      rw [mix_75] at h2
      show some G = _
      rw [← h2, st2_same]
  | succ m ih =>
    intro i fuel G hi hf h1 h2
    cases fuel with
    | zero => omega
    | succ n =>
      rw [fX6_moveAll_p3_c2, if_neg (show ¬ (75 : Int32) ≤ nI i from i_nle (a := 75) (by decide) (by omega) (by omega)), if_pos rfl, g_inb (by omega) (by omega), g_inb (by omega) (by omega), letb_eq, n_cl (by omega), h1, encG_at (by omega), h2, encG_st (by omega), mix_s]
      unfold fX6_moveAll_p3_c33
      rw [letb_eq, show nI i + (1 : Int32) = nI (i + 1) from n_add i 1, ih (i + 1) n (by omega) (by omega) (by rw [st2_ne _ _ (by decide)]; exact h1) (by rw [st2_eq]), st2_st2]
theorem mv3_0 {R T : Rw} {G : M2} {J : J2} (h1 : G 1 = encG R) (h2 : G 3 = encG T) : fX6_moveAll_p3 (0 : Int32) G J = some (st2 G 1 (encG T)) := mv3_0lp 75 0 FU (by omega) (by rw [FU_eq]; omega) h2 (by rw [mix_0]; exact h1)
theorem mv4_1lp {R T : Rw} {J : J2} : ∀ m i fuel {G : M2}, i + m = 75 → m < fuel → G 1 = encG R → G 4 = encG (mix R T i) → fX6_moveAll_p4_c2 fuel (1 : Int32) (nI i) G J = some (st2 G 4 (encG R)) := by
  intro m
  induction m with
  | zero =>
    intro i fuel G hi hf h1 h2
    cases fuel with
    | zero => omega
    | succ n =>
      rw [fX6_moveAll_p4_c2, if_pos (show (75 : Int32) ≤ nI i from i_le (a := 75) (by decide) (by omega) (by omega))]
      have e : i = 75 := by omega
      subst e
      rw [mix_75] at h2
      show some G = _
      rw [← h2, st2_same]
  | succ m ih =>
    intro i fuel G hi hf h1 h2
    cases fuel with
    | zero => omega
    | succ n =>
      rw [fX6_moveAll_p4_c2, if_neg (show ¬ (75 : Int32) ≤ nI i from i_nle (a := 75) (by decide) (by omega) (by omega)), if_neg (by decide), g_inb (by omega) (by omega), g_inb (by omega) (by omega), letb_eq, n_cl (by omega), h1, encG_at (by omega), h2, encG_st (by omega), mix_s]
      unfold fX6_moveAll_p4_c33
      rw [letb_eq, show nI i + (1 : Int32) = nI (i + 1) from n_add i 1, ih (i + 1) n (by omega) (by omega) (by rw [st2_ne _ _ (by decide)]; exact h1) (by rw [st2_eq]), st2_st2]
theorem mv4_1 {R T : Rw} {G : M2} {J : J2} (h1 : G 1 = encG R) (h2 : G 4 = encG T) : fX6_moveAll_p4 (1 : Int32) G J = some (st2 G 4 (encG R)) := mv4_1lp 75 0 FU (by omega) (by rw [FU_eq]; omega) h1 (by rw [mix_0]; exact h2)
theorem mv4_0lp {R T : Rw} {J : J2} : ∀ m i fuel {G : M2}, i + m = 75 → m < fuel → G 4 = encG T → G 1 = encG (mix T R i) → fX6_moveAll_p4_c2 fuel (0 : Int32) (nI i) G J = some (st2 G 1 (encG T)) := by
  intro m
  induction m with
  | zero =>
    intro i fuel G hi hf h1 h2
    cases fuel with
    | zero => omega
    | succ n =>
      rw [fX6_moveAll_p4_c2, if_pos (show (75 : Int32) ≤ nI i from i_le (a := 75) (by decide) (by omega) (by omega))]
      have e : i = 75 := by omega
      subst e
      rw [mix_75] at h2
      show some G = _
      rw [← h2, st2_same]
  | succ m ih =>
    intro i fuel G hi hf h1 h2
    cases fuel with
    | zero => omega
    | succ n =>
      rw [fX6_moveAll_p4_c2, if_neg (show ¬ (75 : Int32) ≤ nI i from i_nle (a := 75) (by decide) (by omega) (by omega)), if_pos rfl, g_inb (by omega) (by omega), g_inb (by omega) (by omega), letb_eq, n_cl (by omega), h1, encG_at (by omega), h2, encG_st (by omega), mix_s]
      unfold fX6_moveAll_p4_c33
      rw [letb_eq, show nI i + (1 : Int32) = nI (i + 1) from n_add i 1, ih (i + 1) n (by omega) (by omega) (by rw [st2_ne _ _ (by decide)]; exact h1) (by rw [st2_eq]), st2_st2]
theorem mv4_0 {R T : Rw} {G : M2} {J : J2} (h1 : G 1 = encG R) (h2 : G 4 = encG T) : fX6_moveAll_p4 (0 : Int32) G J = some (st2 G 1 (encG T)) := mv4_0lp 75 0 FU (by omega) (by rw [FU_eq]; omega) h2 (by rw [mix_0]; exact h1)
theorem mv8_1lp {R T : Rw} {J : J2} : ∀ m i fuel {G : M2}, i + m = 75 → m < fuel → G 1 = encG R → G 8 = encG (mix R T i) → fX6_moveAll_p8_c2 fuel (1 : Int32) (nI i) G J = some (st2 G 8 (encG R)) := by
  intro m
  induction m with
  | zero =>
    intro i fuel G hi hf h1 h2
    cases fuel with
    | zero => omega
    | succ n =>
      rw [fX6_moveAll_p8_c2, if_pos (show (75 : Int32) ≤ nI i from i_le (a := 75) (by decide) (by omega) (by omega))]
      have e : i = 75 := by omega
      subst e
      rw [mix_75] at h2
      show some G = _
      rw [← h2, st2_same]
  | succ m ih =>
    intro i fuel G hi hf h1 h2
    cases fuel with
    | zero => omega
    | succ n =>
      rw [fX6_moveAll_p8_c2, if_neg (show ¬ (75 : Int32) ≤ nI i from i_nle (a := 75) (by decide) (by omega) (by omega)), if_neg (by decide), g_inb (by omega) (by omega), g_inb (by omega) (by omega), letb_eq, n_cl (by omega), h1, encG_at (by omega), h2, encG_st (by omega), mix_s]
      unfold fX6_moveAll_p8_c33
      rw [letb_eq, show nI i + (1 : Int32) = nI (i + 1) from n_add i 1, ih (i + 1) n (by omega) (by omega) (by rw [st2_ne _ _ (by decide)]; exact h1) (by rw [st2_eq]), st2_st2]
theorem mv8_1 {R T : Rw} {G : M2} {J : J2} (h1 : G 1 = encG R) (h2 : G 8 = encG T) : fX6_moveAll_p8 (1 : Int32) G J = some (st2 G 8 (encG R)) := mv8_1lp 75 0 FU (by omega) (by rw [FU_eq]; omega) h1 (by rw [mix_0]; exact h2)
theorem mv8_0lp {R T : Rw} {J : J2} : ∀ m i fuel {G : M2}, i + m = 75 → m < fuel → G 8 = encG T → G 1 = encG (mix T R i) → fX6_moveAll_p8_c2 fuel (0 : Int32) (nI i) G J = some (st2 G 1 (encG T)) := by
  intro m
  induction m with
  | zero =>
    intro i fuel G hi hf h1 h2
    cases fuel with
    | zero => omega
    | succ n =>
      rw [fX6_moveAll_p8_c2, if_pos (show (75 : Int32) ≤ nI i from i_le (a := 75) (by decide) (by omega) (by omega))]
      have e : i = 75 := by omega
      subst e
      rw [mix_75] at h2
      show some G = _
      rw [← h2, st2_same]
  | succ m ih =>
    intro i fuel G hi hf h1 h2
    cases fuel with
    | zero => omega
    | succ n =>
      rw [fX6_moveAll_p8_c2, if_neg (show ¬ (75 : Int32) ≤ nI i from i_nle (a := 75) (by decide) (by omega) (by omega)), if_pos rfl, g_inb (by omega) (by omega), g_inb (by omega) (by omega), letb_eq, n_cl (by omega), h1, encG_at (by omega), h2, encG_st (by omega), mix_s]
      unfold fX6_moveAll_p8_c33
      rw [letb_eq, show nI i + (1 : Int32) = nI (i + 1) from n_add i 1, ih (i + 1) n (by omega) (by omega) (by rw [st2_ne _ _ (by decide)]; exact h1) (by rw [st2_eq]), st2_st2]
theorem mv8_0 {R T : Rw} {G : M2} {J : J2} (h1 : G 1 = encG R) (h2 : G 8 = encG T) : fX6_moveAll_p8 (0 : Int32) G J = some (st2 G 1 (encG T)) := mv8_0lp 75 0 FU (by omega) (by rw [FU_eq]; omega) h2 (by rw [mix_0]; exact h1)
theorem mv9_1lp {R T : Rw} {J : J2} : ∀ m i fuel {G : M2}, i + m = 75 → m < fuel → G 1 = encG R → G 9 = encG (mix R T i) → fX6_moveAll_p9_c2 fuel (1 : Int32) (nI i) G J = some (st2 G 9 (encG R)) := by
  intro m
  induction m with
  | zero =>
    intro i fuel G hi hf h1 h2
    cases fuel with
    | zero => omega
    | succ n =>
      rw [fX6_moveAll_p9_c2, if_pos (show (75 : Int32) ≤ nI i from i_le (a := 75) (by decide) (by omega) (by omega))]
      have e : i = 75 := by omega
      subst e
      rw [mix_75] at h2
      show some G = _
      rw [← h2, st2_same]
  | succ m ih =>
    intro i fuel G hi hf h1 h2
    cases fuel with
    | zero => omega
    | succ n =>
      rw [fX6_moveAll_p9_c2, if_neg (show ¬ (75 : Int32) ≤ nI i from i_nle (a := 75) (by decide) (by omega) (by omega)), if_neg (by decide), g_inb (by omega) (by omega), g_inb (by omega) (by omega), letb_eq, n_cl (by omega), h1, encG_at (by omega), h2, encG_st (by omega), mix_s]
      unfold fX6_moveAll_p9_c33
      rw [letb_eq, show nI i + (1 : Int32) = nI (i + 1) from n_add i 1, ih (i + 1) n (by omega) (by omega) (by rw [st2_ne _ _ (by decide)]; exact h1) (by rw [st2_eq]), st2_st2]
theorem mv9_1 {R T : Rw} {G : M2} {J : J2} (h1 : G 1 = encG R) (h2 : G 9 = encG T) : fX6_moveAll_p9 (1 : Int32) G J = some (st2 G 9 (encG R)) := mv9_1lp 75 0 FU (by omega) (by rw [FU_eq]; omega) h1 (by rw [mix_0]; exact h2)
theorem mv9_0lp {R T : Rw} {J : J2} : ∀ m i fuel {G : M2}, i + m = 75 → m < fuel → G 9 = encG T → G 1 = encG (mix T R i) → fX6_moveAll_p9_c2 fuel (0 : Int32) (nI i) G J = some (st2 G 1 (encG T)) := by
  intro m
  induction m with
  | zero =>
    intro i fuel G hi hf h1 h2
    cases fuel with
    | zero => omega
    | succ n =>
      rw [fX6_moveAll_p9_c2, if_pos (show (75 : Int32) ≤ nI i from i_le (a := 75) (by decide) (by omega) (by omega))]
      have e : i = 75 := by omega
      subst e
      rw [mix_75] at h2
      show some G = _
      rw [← h2, st2_same]
  | succ m ih =>
    intro i fuel G hi hf h1 h2
    cases fuel with
    | zero => omega
    | succ n =>
      rw [fX6_moveAll_p9_c2, if_neg (show ¬ (75 : Int32) ≤ nI i from i_nle (a := 75) (by decide) (by omega) (by omega)), if_pos rfl, g_inb (by omega) (by omega), g_inb (by omega) (by omega), letb_eq, n_cl (by omega), h1, encG_at (by omega), h2, encG_st (by omega), mix_s]
      unfold fX6_moveAll_p9_c33
      rw [letb_eq, show nI i + (1 : Int32) = nI (i + 1) from n_add i 1, ih (i + 1) n (by omega) (by omega) (by rw [st2_ne _ _ (by decide)]; exact h1) (by rw [st2_eq]), st2_st2]
theorem mv9_0 {R T : Rw} {G : M2} {J : J2} (h1 : G 1 = encG R) (h2 : G 9 = encG T) : fX6_moveAll_p9 (0 : Int32) G J = some (st2 G 1 (encG T)) := mv9_0lp 75 0 FU (by omega) (by rw [FU_eq]; omega) h2 (by rw [mix_0]; exact h1)
-- ===== becomeLike =====
theorem cpy_full {f g : M1} {n : Nat} (h : ∀ j, n ≤ j → f j = g j) : va_cpy f g 0 0 n = f := by
  funext j
  unfold va_cpy
  split
  · rw [Nat.sub_zero, Nat.zero_add]
  · exact (h j (by omega)).symm
theorem encL_tail {R S : Rw} {u d x y : Int32} {a n : Nat} (h : (a = 1 ∧ n = 28) ∨ (2 ≤ a ∧ n = 8)) : ∀ j, n ≤ j → encL R u d a j = encL S x y a j := by
  intro j hj
  rcases h with ⟨rfl, rfl⟩ | ⟨ha, rfl⟩
  · rw [encL_r1, encL_r1]
    show (if j < 28 then _ else _) = (if j < 28 then _ else _)
    rw [if_neg (by omega), if_neg (by omega)]
  · by_cases h7 : a < 7
    · rw [encL_rk ha h7, encL_rk ha h7]
      show (if j < 8 then _ else _) = (if j < 8 then _ else _)
      rw [if_neg (by omega), if_neg (by omega)]
    · rw [encL_rb (by omega), encL_rb (by omega)]
theorem t_0 : (0 : Int32).toNatClampNeg = 0 := rfl
theorem t_8 : (8 : Int32).toNatClampNeg = 8 := rfl
theorem t_28 : (28 : Int32).toNatClampNeg = 28 := rfl
theorem c_like {R S : Rw} {u d x y : Int32} : fX1_becomeLike (encL S x y) (encL R u d) = some (encL R x y) := by
  unfold fX1_becomeLike
  rw [grd_if (by decide)]
  simp only [letb_eq, t_0, t_8, t_28, grd_if (show cpok 0 0 8 8 8 = true by decide)]
  apply congrArg some
  funext a
  rcases (show a = 0 ∨ a = 1 ∨ a = 2 ∨ a = 3 ∨ a = 4 ∨ a = 5 ∨ a = 6 ∨ 7 ≤ a by omega) with h | h | h | h | h | h | h | h
  · subst h
    simp (disch := decide) only [st2_ne, st2_eq]
    funext j
    rcases (show j = 0 ∨ j = 1 ∨ j = 2 ∨ j = 3 ∨ j = 4 ∨ j = 5 ∨ j = 6 ∨ j = 7 ∨ j = 8 ∨ 9 ≤ j by omega) with h | h | h | h | h | h | h | h | h | h
    · subst h; simp (disch := decide) only [upd_ne, upd_eq, encL_0]
    · subst h; simp (disch := decide) only [upd_ne, upd_eq, encL_0]
    · subst h; simp (disch := decide) only [upd_ne, upd_eq, encL_0]
    · subst h; simp (disch := decide) only [upd_ne, upd_eq, encL_0]
    · subst h; simp (disch := decide) only [upd_ne, upd_eq, encL_0]
    · subst h; simp (disch := decide) only [upd_ne, upd_eq, encL_0]
    · subst h; simp (disch := decide) only [upd_ne, upd_eq, encL_0]
    · subst h; simp (disch := decide) only [upd_ne, upd_eq]; rfl
    · subst h; simp (disch := decide) only [upd_ne, upd_eq]; rfl
    · simp (disch := omega) only [upd_ne]
      rw [encL_r0, encL_r0]
      show (if j < 7 then _ else if j = 7 then _ else if j = 8 then _ else _) = (if j < 7 then _ else if j = 7 then _ else if j = 8 then _ else _)
      rw [if_neg (by omega), if_neg (by omega), if_neg (by omega), if_neg (by omega)]
      try rw [if_neg (by omega), if_neg (by omega)]
  · subst h
    simp (disch := decide) only [st2_ne, st2_eq]
    rw [cpy_full (encL_tail (Or.inl ⟨rfl, rfl⟩))]
    exact encL_ext (fun q => by omega) (fun _ _ _ => rfl) (fun q => by omega)
  · subst h
    simp (disch := decide) only [st2_ne, st2_eq]
    rw [cpy_full (encL_tail (Or.inr ⟨by decide, rfl⟩))]
    exact encL_ext (fun q => by omega) (fun q => by omega) (fun _ _ _ _ => rfl)
  · subst h
    simp (disch := decide) only [st2_ne, st2_eq]
    rw [cpy_full (encL_tail (Or.inr ⟨by decide, rfl⟩))]
    exact encL_ext (fun q => by omega) (fun q => by omega) (fun _ _ _ _ => rfl)
  · subst h
    simp (disch := decide) only [st2_ne, st2_eq]
    rw [cpy_full (encL_tail (Or.inr ⟨by decide, rfl⟩))]
    exact encL_ext (fun q => by omega) (fun q => by omega) (fun _ _ _ _ => rfl)
  · subst h
    simp (disch := decide) only [st2_ne, st2_eq]
    rw [cpy_full (encL_tail (Or.inr ⟨by decide, rfl⟩))]
    exact encL_ext (fun q => by omega) (fun q => by omega) (fun _ _ _ _ => rfl)
  · subst h
    simp (disch := decide) only [st2_ne, st2_eq]
    rw [cpy_full (encL_tail (Or.inr ⟨by decide, rfl⟩))]
    exact encL_ext (fun q => by omega) (fun q => by omega) (fun _ _ _ _ => rfl)
  · simp (disch := omega) only [st2_ne]
    rw [encL_rb h, encL_rb h]
-- ===== findings =====
theorem c_tell0 (R1 R2 R3 : M2) (K : Int32) (T : M2) (SN : J2) (SZ : M2) (F : M1) : fX5_tell (-1000000001 : Int32) R1 R2 R3 K T SN SZ F = some ((-1000000001 : Int32), upd F 0 (F 0 + 1)) := rfl
theorem m_find0 (G : M2) (J : J2) : fX6_finds (-1000000001 : Int32) G J = some ((-1000000001 : Int32), st2 G 2 (upd (G 2) 0 (G 2 0 + 1))) := rfl
theorem c_tell1 (R1 R2 R3 : M2) (K : Int32) (T : M2) (SN : J2) (SZ : M2) (F : M1) : fX5_tell (-1000000002 : Int32) R1 R2 R3 K T SN SZ F = some ((-1000000002 : Int32), upd F 1 (F 1 + 1)) := rfl
theorem m_find1 (G : M2) (J : J2) : fX6_finds (-1000000002 : Int32) G J = some ((-1000000002 : Int32), st2 G 2 (upd (G 2) 1 (G 2 1 + 1))) := rfl
theorem c_tell2 (R1 R2 R3 : M2) (K : Int32) (T : M2) (SN : J2) (SZ : M2) (F : M1) : fX5_tell (-1000000003 : Int32) R1 R2 R3 K T SN SZ F = some ((-1000000003 : Int32), upd F 2 (F 2 + 1)) := rfl
theorem m_find2 (G : M2) (J : J2) : fX6_finds (-1000000003 : Int32) G J = some ((-1000000003 : Int32), st2 G 2 (upd (G 2) 2 (G 2 2 + 1))) := rfl
theorem c_tell3 (R1 R2 R3 : M2) (K : Int32) (T : M2) (SN : J2) (SZ : M2) (F : M1) : fX5_tell (-1000000004 : Int32) R1 R2 R3 K T SN SZ F = some ((-1000000004 : Int32), upd F 3 (F 3 + 1)) := rfl
theorem m_find3 (G : M2) (J : J2) : fX6_finds (-1000000004 : Int32) G J = some ((-1000000004 : Int32), st2 G 2 (upd (G 2) 3 (G 2 3 + 1))) := rfl
theorem c_tell4 (R1 R2 R3 : M2) (K : Int32) (T : M2) (SN : J2) (SZ : M2) (F : M1) : fX5_tell (-1000000005 : Int32) R1 R2 R3 K T SN SZ F = some ((-1000000005 : Int32), upd F 4 (F 4 + 1)) := rfl
theorem m_find4 (G : M2) (J : J2) : fX6_finds (-1000000005 : Int32) G J = some ((-1000000005 : Int32), st2 G 2 (upd (G 2) 4 (G 2 4 + 1))) := rfl
theorem c_tell5 (R1 R2 R3 : M2) (K : Int32) (T : M2) (SN : J2) (SZ : M2) (F : M1) : fX5_tell (-1000000006 : Int32) R1 R2 R3 K T SN SZ F = some ((-1000000006 : Int32), upd F 5 (F 5 + 1)) := rfl
theorem m_find5 (G : M2) (J : J2) : fX6_finds (-1000000006 : Int32) G J = some ((-1000000006 : Int32), st2 G 2 (upd (G 2) 5 (G 2 5 + 1))) := rfl
theorem c_tell6 (R1 R2 R3 : M2) (K : Int32) (T : M2) (SN : J2) (SZ : M2) (F : M1) : fX5_tell (-1000000007 : Int32) R1 R2 R3 K T SN SZ F = some ((-1000000007 : Int32), upd F 6 (F 6 + 1)) := rfl
theorem m_find6 (G : M2) (J : J2) : fX6_finds (-1000000007 : Int32) G J = some ((-1000000007 : Int32), st2 G 2 (upd (G 2) 6 (G 2 6 + 1))) := rfl
