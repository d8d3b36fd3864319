section SK
variable {R1 R2 R3 : M2} {K : Int32} {T : M2} {SN : J2} {SZ : M2} {F : M1} {G : M2} {J : J2}
theorem nn {x : Int32} (h : ¬ x < 0) : ∃ n, n < 2147483648 ∧ x = nI n := by
  have h0 : (0 : Int32) ≤ x := Int32.not_lt.mp h
  obtain ⟨n, -, hn, e⟩ := rng (a := 0) (b := 2147483647) (x := x) (by decide) (by decide) ⟨h0, by
    rw [fa_le, nI_toInt (by decide)]
    have := Int32.toInt_le x
    exact this⟩
  exact ⟨n, by omega, e⟩
theorem sub_big {z a : Nat} (hz : z ≤ 40) (ha : a < 2147483648) : (nI z - nI a).toInt = (z : Int) - a := by
  rw [Int32.toInt_sub, nI_toInt (by omega), nI_toInt ha]
  exact Int.bmod_eq_of_le (by omega) (by omega)
theorem rg {x y : Int32} {z k : Nat} (hz : z ≤ 40) (hk : k < 4) {B : J1} {Z : M1} (h1 : Z 1 = nI z) (h7 : G 7 k = nI z) : (∃ a n, a + n ≤ z ∧ x = nI a ∧ y = nI n ∧ fX2_hasRange x y B Z = some 1 ∧ fX6_isPart (nI k) x y G J = some 1) ∨ (fX2_hasRange x y B Z = some 0 ∧ fX6_isPart (nI k) x y G J = some 0) := by
  unfold fX2_hasRange fX2_hasRange_c22 fX2_hasRange_c23 fX6_isPart fX6_isPart_c34 fX6_isPart_c35
  rw [h1, g_inb (by omega) (by omega), g_inb (by omega) (by omega), n_cl (by omega), h7]
  by_cases hx : x < 0
  · rw [if_pos hx, if_pos hx]; exact Or.inr ⟨rfl, rfl⟩
  · by_cases hy : y < 0
    · rw [if_neg hx, if_neg hx, if_pos hy, if_pos hy]; exact Or.inr ⟨rfl, rfl⟩
    · rw [if_neg hx, if_neg hx, if_neg hy, if_neg hy]
      obtain ⟨a, ha, rfl⟩ := nn hx
      obtain ⟨n, hn, rfl⟩ := nn hy
      have e1 : nI z - nI a < nI n ↔ ¬ a + n ≤ z := by
        rw [fa_lt, sub_big hz ha, nI_toInt hn]; omega
      have e2 : nI z - nI n < nI a ↔ ¬ a + n ≤ z := by
        rw [fa_lt, sub_big hz hn, nI_toInt ha]; omega
      by_cases hc : a + n ≤ z
      · rw [if_neg (fun hh => e1.mp hh hc), if_neg (i_nlt (by omega) (by omega) (by omega)), if_neg (fun hh => e2.mp hh hc)]
        exact Or.inl ⟨a, n, hc, rfl, rfl, rfl, rfl⟩
      · rw [if_pos (e1.mpr hc), if_pos (e2.mpr hc)]
        refine Or.inr ⟨rfl, ?_⟩
        split <;> rfl
theorem cp_lp1 {k1 a k3 b n : Nat} (hk : k1 < 4) (ha : a + n ≤ 40) : ∀ m i fuel {J : J2}, i + m = n → m < fuel → fX6_copy_c101 fuel (nI k1) (nI a) (nI k3) (nI b) (nI n) (nI i) G J = fX6_copy_c135 (nI k3) (nI b) (nI n) G (st2 J 2 (fun j => if i ≤ j ∧ j < n then J 1 (40 * k1 + a + j) else J 2 j)) := by
  intro m
  induction m with
  | zero =>
    intro i fuel J hi hf
    obtain ⟨f, rfl⟩ : ∃ f, fuel = f + 1 := ⟨fuel - 1, by omega⟩
    rw [fX6_copy_c101, if_pos (i_le (by omega) (by omega) (by omega))]
    have e : (fun j => if i ≤ j ∧ j < n then J 1 (40 * k1 + a + j) else J 2 j) = J 2 := by
      funext j
      rw [if_neg (by omega)]
    rw [e, st2_same]
  | succ m ih =>
    intro i fuel J hi hf
    obtain ⟨f, rfl⟩ : ∃ f, fuel = f + 1 := ⟨fuel - 1, by omega⟩
    rw [fX6_copy_c101, if_neg (i_nle (by omega) (by omega) (by omega)), n_40k, n_add, g_inb (a := 40 * k1 + a + i) (by omega) (by omega), n_cl (a := 40 * k1 + a + i) (by omega), g_inb (a := i) (by omega) (by omega), n_cl (a := i) (by omega), letb_eq, letb_eq, show nI i + (1 : Int32) = nI (i + 1) from n_add i 1, ih (i + 1) f (by omega) (by omega), st2_st2, st2_eq, st2_ne _ _ (show 1 ≠ 2 by decide)]
    have e : (fun j => if i + 1 ≤ j ∧ j < n then J 1 (40 * k1 + a + j) else vp_updL (J 2) i (J 1 (40 * k1 + a + i)) j) = (fun j => if i ≤ j ∧ j < n then J 1 (40 * k1 + a + j) else J 2 j) := by
      funext j
      unfold vp_updL
      by_cases e : j = i
      · subst e
        rw [if_neg (by omega), if_pos rfl, if_pos (by omega)]
      · by_cases e2 : i + 1 ≤ j ∧ j < n
        · rw [if_pos e2, if_pos (by omega)]
        · rw [if_neg e2, if_neg e, if_neg (by omega)]
    rw [e]
theorem cp_lp2 {k3 b n : Nat} (hk : k3 < 4) (hb : b + n ≤ 40) : ∀ m i fuel {J : J2}, i + m = n → m < fuel → fX6_copy_c138 fuel (nI k3) (nI b) (nI n) (nI i) G J = some (nI n, G, st2 J 1 (fun j => if 40 * k3 + b + i ≤ j ∧ j < 40 * k3 + b + n then J 2 (j - (40 * k3 + b)) else J 1 j)) := by
  intro m
  induction m with
  | zero =>
    intro i fuel J hi hf
    obtain ⟨f, rfl⟩ : ∃ f, fuel = f + 1 := ⟨fuel - 1, by omega⟩
    rw [fX6_copy_c138, if_pos (i_le (by omega) (by omega) (by omega))]
    unfold fX6_copy_c173
    have e : (fun j => if 40 * k3 + b + i ≤ j ∧ j < 40 * k3 + b + n then J 2 (j - (40 * k3 + b)) else J 1 j) = J 1 := by
      funext j
      rw [if_neg (by omega)]
    rw [e, st2_same]
  | succ m ih =>
    intro i fuel J hi hf
    obtain ⟨f, rfl⟩ : ∃ f, fuel = f + 1 := ⟨fuel - 1, by omega⟩
    rw [fX6_copy_c138, if_neg (i_nle (by omega) (by omega) (by omega)), n_40k, n_add, g_inb (a := i) (by omega) (by omega), n_cl (a := i) (by omega), g_inb (a := 40 * k3 + b + i) (by omega) (by omega), n_cl (a := 40 * k3 + b + i) (by omega), letb_eq, letb_eq, show nI i + (1 : Int32) = nI (i + 1) from n_add i 1, ih (i + 1) f (by omega) (by omega), st2_st2, st2_eq, st2_ne _ _ (show 2 ≠ 1 by decide)]
    have e : (fun j => if 40 * k3 + b + (i + 1) ≤ j ∧ j < 40 * k3 + b + n then J 2 (j - (40 * k3 + b)) else vp_updL (J 1) (40 * k3 + b + i) (J 2 i) j) = (fun j => if 40 * k3 + b + i ≤ j ∧ j < 40 * k3 + b + n then J 2 (j - (40 * k3 + b)) else J 1 j) := by
      funext j
      unfold vp_updL
      by_cases e : j = 40 * k3 + b + i
      · rw [if_neg (by omega), if_pos e, if_pos (by omega), show j - (40 * k3 + b) = i by omega]
      · by_cases e2 : 40 * k3 + b + (i + 1) ≤ j ∧ j < 40 * k3 + b + n
        · rw [if_pos e2, if_pos (by omega)]
        · rw [if_neg e2, if_neg e, if_neg (by omega)]
    rw [e]
theorem Rel.cpy (h : Rel R1 R2 R3 K T SN SZ F G J) {k1 a k3 b n : Nat} (hk1 : k1 < 4) (hk3 : k3 < 4) (ha : a + n ≤ 40) (hb : b + n ≤ 40) : Rel R1 R2 R3 K T (st2 SN k3 (va_cpy (SN k1) (SN k3) a b n)) SZ F G (st2 (st2 J 2 (fun j => if 0 ≤ j ∧ j < n then J 1 (40 * k1 + a + j) else J 2 j)) 1 (fun j => if 40 * k3 + b + 0 ≤ j ∧ j < 40 * k3 + b + n then (if 0 ≤ j - (40 * k3 + b) ∧ j - (40 * k3 + b) < n then J 1 (40 * k1 + a + (j - (40 * k3 + b))) else J 2 (j - (40 * k3 + b))) else J 1 j)) := by
  obtain ⟨h1, h2, ⟨h3, h5⟩, h4⟩ := h
  refine ⟨h1, h2, ⟨h3, ?_⟩, h4⟩
  intro k' i' hk' hi'
  rw [st2_eq]
  show st2 SN k3 (va_cpy (SN k1) (SN k3) a b n) k' i' = if 40 * k3 + b + 0 ≤ 40 * k' + i' ∧ 40 * k' + i' < 40 * k3 + b + n then (if 0 ≤ 40 * k' + i' - (40 * k3 + b) ∧ 40 * k' + i' - (40 * k3 + b) < n then J 1 (40 * k1 + a + (40 * k' + i' - (40 * k3 + b))) else J 2 (40 * k' + i' - (40 * k3 + b))) else J 1 (40 * k' + i')
  by_cases e : k' = k3
  · subst e
    rw [st2_eq]
    unfold va_cpy
    by_cases e2 : b ≤ i' ∧ i' < b + n
    · rw [if_pos e2, if_pos (by omega), if_pos (by omega), h5 k1 _ hk1 (by omega), show 40 * k1 + (a + (i' - b)) = 40 * k1 + a + (40 * k' + i' - (40 * k' + b)) by omega]
    · rw [if_neg e2, if_neg (by omega)]
      exact h5 k' i' hk' hi'
  · rw [st2_ne _ _ e, if_neg (by omega)]
    exact h5 k' i' hk' hi'
theorem cpok_n {a b n : Nat} (ha : a + n ≤ 40) (hb : b + n ≤ 40) : cpok (nI a) (nI b) (nI n) 40 40 = true := by
  unfold cpok
  rw [n_cl (by omega), n_cl (by omega), n_cl (by omega), decide_eq_true (i_nneg (a := a) (by omega)), decide_eq_true (i_nneg (a := b) (by omega)), decide_eq_true (i_nneg (a := n) (by omega)), decide_eq_true ha, decide_eq_true hb]
  rfl
theorem e_copy (h : Rel R1 R2 R3 K T SN SZ F G J) (x1 x2 x3 x4 x5 : Int32) : ∃ r SN' F' G' J', fX5_copy x1 x2 x3 x4 x5 R1 R2 R3 K T SN SZ F = some (r, SN', F') ∧ fX6_copy x1 x2 x3 x4 x5 G J = some (r, G', J') ∧ Rel R1 R2 R3 K T SN' SZ F' G' J' := by
  unfold fX5_copy fX6_copy fX5_copy_c24 fX5_copy_c47 fX5_copy_c97 fX6_copy_c14 fX6_copy_c39 fX6_copy_c91
  rw [c_tell0, c_tell5, c_tell2, m_find0, m_find5, m_find2, bind2_eq, bind2_eq, bind2_eq, bind2_eq, bind2_eq, bind2_eq]
  by_cases hs : (0 : Int32) ≤ x1 ∧ x1 ≤ 3
  · by_cases ht : (0 : Int32) ≤ x3 ∧ x3 ≤ 3
    · obtain ⟨k, -, hk3, rfl⟩ := rng (a := 0) (b := 3) (by decide) (by decide) hs
      obtain ⟨q, -, hq3, rfl⟩ := rng (a := 0) (b := 3) (by decide) (by decide) ht
      obtain ⟨s0, s1, s2, z, hz, s3, s4⟩ := h.sh (k := k) (by omega)
      obtain ⟨t0, t1, t2, y, hy, t3, t4⟩ := h.sh (k := q) (by omega)
      rw [if_pos (n_inb (a := k) (by omega) (by omega)), letb_eq, n_cl (a := k) (by omega), if_pos (n_inb (a := q) (by omega) (by omega)), letb_eq, n_cl (a := q) (by omega), m_shY hs, bind_eq, ifn10, m_shY ht, bind_eq, ifn10, g_inb (a := k) (by omega) (by omega), g_inb (a := q) (by omega) (by omega)]
      by_cases h0 : G 6 k = 0
      · rw [c_missY (by rw [s0]; exact h0), bind_eq, ifn10, if_pos h0]
        exact ⟨_, _, _, _, _, rfl, rfl, h.find 5⟩
      rw [c_missN (by rw [s0]; exact h0), bind_eq, ifp00, if_neg h0]
      by_cases h0' : G 6 q = 0
      · rw [c_missY (by rw [t0]; exact h0'), bind_eq, ifn10, if_pos h0']
        exact ⟨_, _, _, _, _, rfl, rfl, h.find 5⟩
      rw [c_missN (by rw [t0]; exact h0'), bind_eq, ifp00, if_neg h0', s0, t0, g_inb (a := k) (by omega) (by omega), g_inb (a := q) (by omega) (by omega)]
      by_cases he : G 6 k = G 6 q
      · rw [if_pos he, if_pos he]
        rcases rg (G := G) (J := J) (x := x2) (y := x5) (B := SN k) (Z := SZ k) hz (show k < 4 by omega) (by rw [s1, s3]) s3 with ⟨a, n, hc, rfl, rfl, r1, r2⟩ | ⟨r1, r2⟩
        · rw [r1, r2, bind_eq, bind_eq, ifn10, ifn10]
          rcases rg (G := G) (J := J) (x := x4) (y := nI n) (B := SN q) (Z := SZ q) hy (show q < 4 by omega) (by rw [t1, t3]) t3 with ⟨b, n', hc', rfl, en, r3, r4⟩ | ⟨r3, r4⟩
          · have hn' : b + n ≤ 40 := by
              by_cases hb : n' < 2147483648
              · have := of_eq_true (Eq.trans (Eq.symm (n_eq (a := n) (b := n') (by omega) hb)) (eq_true en))
                omega
              · omega
            rw [r3, r4, bind_eq, bind_eq, ifn10, ifn10, grd_if (cpok_n (by omega) hn'), n_cl (by omega), n_cl (by omega), n_cl (by omega), letb_eq, show (0 : Int32) = nI 0 from rfl, cp_lp1 (by omega) (by omega) n 0 FU (by omega) (by rw [FU_eq]; omega)]
            unfold fX6_copy_c135
            rw [show (0 : Int32) = nI 0 from rfl, cp_lp2 (by omega) hn' n 0 FU (by omega) (by rw [FU_eq]; omega), st2_eq, st2_ne _ _ (show 1 ≠ 2 by decide)]
            exact ⟨_, _, _, _, _, rfl, rfl, h.cpy (by omega) (by omega) (by omega) hn'⟩
          · rw [r3, r4, bind_eq, bind_eq, ifp00, ifp00]
            exact ⟨_, _, _, _, _, rfl, rfl, h.find 0⟩
        · rw [r1, r2, bind_eq, bind_eq, ifp00, ifp00]
          exact ⟨_, _, _, _, _, rfl, rfl, h.find 0⟩
      · rw [if_neg he, if_neg he]
        exact ⟨_, _, _, _, _, rfl, rfl, h.find 2⟩
    · rw [m_shY hs, bind_eq, ifn10, m_shN ht, bind_eq, ifp00, sh_no ht]
      refine ⟨_, _, _, _, _, ?_, rfl, h.find 0⟩
      split <;> rfl
  · rw [m_shN hs, bind_eq, ifp00, sh_no hs]
    refine ⟨_, _, _, _, _, ?_, rfl, h.find 0⟩
    rw [if_neg (by decide)]
    split <;> rfl
end SK
