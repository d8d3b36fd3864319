section IU
variable {T G : M2} {J : J2} {B : Nat → Nat} {n : Nat} {g u d : Int32}
/-- how an item ends: both go on, or both stop at one token -/
def Itm (T G : M2) (J : J2) (B : Nat → Nat) (n : Nat) (u d : Int32) (e : Nat) (ce : Option (Int32 × M2 × M2)) (me : Option (M2 × J2)) : Prop :=
  (∃ e' S', e < e' ∧ e' ≤ n ∧ Inv 9999 S' ∧ ce = some (1, TT T B n e', encL S' u d) ∧ me = some (GG (mG G S') B n 1 e', JJ J B n e')) ∨
  (∃ e' S' S'', e' ≤ n ∧ ce = some (0, TT T B n e', encL S' u d) ∧ me = some (GG (mG G S'') B n 0 e', JJ J B n e'))
theorem GG_r1 {S : Rw} {e j : Nat} (hj : j < 75) : GG (mG G S) B n g e 1 j = nI (S j) := mG_r (G := G) hj
theorem GG_s1 {S : Rw} {e j v : Nat} (hj : j < 75) : st2 (GG (mG G S) B n g e) 1 (upd (GG (mG G S) B n g e 1) j (nI v)) = GG (mG G (wr S j v)) B n g e := by
  unfold GG
  rw [gk_mG, gk_mG, mG_s hj]
theorem GG_adds {S : Rw} {e a o w : Nat} (hI : Inv 9999 S) (h6 : S 6 < 8) : fX6_adds (nI a) (nI o) (nI w) (GG (mG G S) B n g e) J = some (GG (mG G (addS S a o w)) B n g e) := by
  unfold GG
  rw [gk_mG, gk_mG]
  exact m_adds hI h6
theorem c_addF {S : Rw} (hI : Inv 9999 S) {a : Nat} (h6 : ¬ S 6 < 8) : fX1_addKeeper (nI a) (encL S u d) = some (-1, encL S u d) := by
  unfold fX1_addKeeper
  rw [c_full hI, if_neg h6, bind_eq, ifn10]
theorem c_wordsP {S : Rw} {k v : Nat} (hk : k < 8) : fX1_putWords (nI k) (nI v) (encL S u d) = some (nI (S (38 + 5 * k)), encL (wr S (38 + 5 * k) v) u d) := by
  unfold fX1_putWords
  rw [g_inb hk (by omega), n_cl (by omega), encL_5 hk, letb_eq, g_inb hk (by omega), encL_s5 hk, letb_eq]
theorem addS_on (S : Rw) (a : Nat) : tnS (addS S a 0 0) (S 6) 1 = addS S a 1 0 := by
  unfold tnS addS
  funext i
  unfold wr
  by_cases h1 : i = 37 + 5 * S 6
  · subst h1
    simp (disch := omega) only [if_pos, if_neg]
  · by_cases h2 : i = 36 + 5 * S 6
    · subst h2
      simp (disch := omega) only [if_pos, if_neg]
    · simp only [if_neg h1, if_neg h2]
theorem addS_w (S : Rw) (a o w : Nat) : wr (addS S a o 0) (38 + 5 * S 6) w = addS S a o w := by
  unfold addS
  funext i
  unfold wr
  by_cases h1 : i = 38 + 5 * S 6
  · subst h1
    simp (disch := omega) only [if_pos, if_neg]
  · simp only [if_neg h1]
-- ===== a keeper =====
theorem kp_end (h : TB B n T G) {e1 e k a o : Nat} {S : Rw} (hI : Inv 9999 S) (h6 : S 6 < 8) (ha : a ≤ 5) (ho : o ≤ 1) (he1 : e1 ≤ n) (he : e < e1) : Itm T G J B n u d e (fX4_takeKeeper_c32 (nI (S 6)) (TT T B n e1) (encL (addS S a o 0) u d)) (fX6_wantOne_c51 (nI a) (nI o) (GG (mG G S) B n 1 e1) (JJ J B n e1)) := by
  have hB := h.2.2.2.2.2
  unfold fX4_takeKeeper_c32 fX6_wantOne_c51 fX6_mayKnow fX4_takeKeeper_c50 fX4_takeKeeper_c55
  have g7 : ∀ e, GG (mG G S) B n 1 e 0 7 = 1 := fun _ => rfl
  have g70 : ∀ e, GG (mG G S) B n 0 e 0 7 = 0 := fun _ => rfl
  by_cases hw : isW B n e1 7
  · have hC := tC_le (B := B) he1
    have hS := tS_le (B := B) he1
    rw [c_twT h he1 (by decide) hw, bind2_eq, ifn10, g7, ifn10, m_wT hB 7 (by decide) hw 6132988 rfl, bind_eq, ifn10, m_nx (h.mG S) he1 (by rw [hw.1]; decide), bind2_eq]
    unfold fX4_takeKnownWords
    rcases know_lp (J := J) (k := nI (S 6)) (L := encL (addS S a o 0) u d) (h.mG S) 4 0 (tC B n e1) 0 FU FU (by omega) hC.2 (by omega) (by rw [FU_eq]; omega) (by rw [FU_eq]; omega) with ⟨e', s', k1, k2, k3, k4, k5⟩ | ⟨e', x, k1, k2, k4, k5⟩
    · rw [show nI 0 = (0 : Int32) from rfl] at k4 k5
      refine Or.inl ⟨e', addS S a o s', by omega, k2, add_inv hI h6 ha ho k3, ?_, ?_⟩
      · rw [k4]
        unfold fX4_takeKnownWords_c56
        rw [c_wordsP h6, bind2_eq, bind3_eq, ifn10, addS_w, grd_if (by decide)]
      · rw [k5, bind3_eq, g7, ifn10, GG_adds hI h6, bind_eq]
        rfl
    · rw [show nI 0 = (0 : Int32) from rfl] at k4 k5
      refine Or.inr ⟨e', addS S a o 0, S, k2, ?_, ?_⟩
      · rw [k4, bind3_eq, ifp00, grd_if (by decide)]
      · rw [k5, bind3_eq, g70, ifp00]
        rfl
  · refine Or.inl ⟨e1, addS S a o 0, he, he1, add_inv hI h6 ha ho (by omega), ?_, ?_⟩
    · rw [c_twF h he1 (by decide) hw, bind2_eq, ifp00, grd_if (by decide)]
    · rw [g7, ifn10, m_wF hB 7 (by decide) hw 6132988 rfl, bind_eq, ifp00]
      unfold fX6_mayKnow_c17
      rw [bind3_eq, g7, ifn10, show (0 : Int32) = nI 0 from rfl, GG_adds hI h6, bind_eq]
      rfl
theorem it_keeper (h : TB B n T G) {e a : Nat} {S : Rw} (hI : Inv 9999 S) (ha : a ≤ 5) (he : e ≤ n) (hy : tY B n e = 1) : Itm T G J B n u d e (fX4_takeKeeper (nI a) (TT T B n e) (encL S u d)) (fX6_wantOne (nI a) (GG (mG G S) B n 1 e) (JJ J B n e)) := by
  have hB := h.2.2.2.2.2
  have h6 := hI.many
  have hC := tC_le (B := B) he
  have hS := tS_le (B := B) he
  have hg := tC_gt he (show tY B n e ≠ 0 by omega)
  have e6 : GG (mG G S) B n 1 e 1 6 = nI (S 6) := GG_r1 (by decide)
  have g7 : ∀ e, GG (mG G S) B n 1 e 0 7 = 1 := fun _ => rfl
  have g70 : ∀ e, GG (mG G S) B n 0 e 0 7 = 0 := fun _ => rfl
  have es0 : st2 (GG (mG G S) B n 1 e) 0 (upd (GG (mG G S) B n 1 e 0) 7 0) = GG (mG G S) B n 0 e := gk_s7
  have es1 : st2 (GG (mG G S) B n 1 e) 0 (upd (GG (mG G S) B n 1 e 0) 7 1) = GG (mG G S) B n 1 e := gk_s7
  unfold fX4_takeKeeper fX6_wantOne fX6_wantOne_c18
  rw [g_6, t_6, e6]
  by_cases h8 : S 6 < 8
  · rw [if_neg (show ¬ (8 : Int32) ≤ nI (S 6) from i_nle (a := 8) (by decide) (by omega) h8), c_add hI h8, bind2_eq, if_pos (i_pos (by omega)), c_nx h he, bind_eq, grd_if (by decide), es1, letb_eq, g7, ifn10, m_nx (h.mG S) he (by rw [hy]; decide), bind2_eq]
    have hC2 := tC_le (B := B) hC.2
    have hS2 := tS_le (B := B) hC.2
    by_cases hw : isW B n (tC B n e) 6
    · rw [c_twT h hC.2 (by decide) hw, bind2_eq, ifn10, m_wT hB 6 (by decide) hw 419 rfl, bind_eq, ifn10, m_nx (h.mG S) hC.2 (by rw [hw.1]; decide), bind2_eq, show (1 : Int32) = nI 1 from rfl, c_stand h8, bind2_eq, addS_on]
      exact kp_end (k := 0) h hI h8 ha (Nat.le_refl _) hC2.2 (by omega)
    · rw [c_twF h hC.2 (by decide) hw, bind2_eq, ifp00, m_wF hB 6 (by decide) hw 419 rfl, bind_eq, ifp00]
      exact kp_end (k := 0) (o := 0) h hI h8 ha (by omega) hC.2 (by omega)
  · rw [if_pos (show (8 : Int32) ≤ nI (S 6) from i_le (a := 8) (by decide) (by omega) (by omega)), c_addF hI h8, bind2_eq, if_neg (by decide), grd_if (by decide), es0, letb_eq, g70, ifp00]
    exact Or.inr ⟨e, S, S, he, rfl, rfl⟩
-- ===== rock, oil, beds =====
theorem it_light (h : TB B n T G) {e m at' lo hi : Nat} {S : Rw} (hI : Inv 9999 S) (he : e ≤ n) (hy : tY B n e = 1) (hm : m < 4) (hL : tabL m = nI lo) (hM : tabM m = nI hi) (hlo : lo < 100000) (hhi : hi < 100000) (hj : at' < 75) (hb : hi ≤ bnd 9999 at') (h3 : at' = 3 → 1 ≤ lo) (hp : ∀ v, fX1_putMeasure (nI m) (nI v) (encL S u d) = some (encL (wr S at' v) u d)) : Itm T G J B n u d e (fX4_takeMeasure (nI m) (TT T B n (tC B n e)) (encL S u d)) (fX6_wantLight (nI at') (nI lo) (nI hi) (GG (mG G S) B n 1 e) (JJ J B n e)) := by
  have hC := tC_le (B := B) he
  have hS := tS_le (B := B) he
  have hg := tC_gt he (show tY B n e ≠ 0 by omega)
  have hC2 := tC_le (B := B) hC.2
  have hS2 := tS_le (B := B) hC.2
  have g7 : ∀ e, GG (mG G S) B n 1 e 0 7 = 1 := fun _ => rfl
  have g70 : ∀ e, GG (mG G S) B n 0 e 0 7 = 0 := fun _ => rfl
  unfold fX4_takeMeasure fX4_takeMeasure_c27 fX6_wantLight fX6_wantLight_c35
  rw [within_true (show (0 : Int32) ≤ nI m ∧ nI m ≤ (3 : Int32) from rng_of (a := 0) (b := 3) (by decide) (by decide) (Nat.zero_le _) (by omega)), bind_eq, ifn10, g_inb hm (by decide), g_inb hm (by decide), n_cl (by omega), hL, hM, m_nx (h.mG S) he (by rw [hy]; decide), bind2_eq]
  by_cases ho : okN B n (tC B n e) lo hi
  · have hv := tV_le (B := B) (n := n) (tC B n e)
    rw [c_numT h hC.2 hhi ho, m_numT (h.mG S) hC.2 hhi ho, bind2_eq, bind3_eq, if_pos (i_pos (by omega)), hp, bind_eq, g7, ifn10, g_inb hj (by decide), n_cl (by omega), GG_s1 hj, letb_eq]
    exact Or.inl ⟨_, _, by omega, hC2.2, Inv.set hI (Nat.le_trans ho.2.2 hb) (fun q => Nat.le_trans (h3 q) ho.2.1), rfl, rfl⟩
  · rw [c_numF hlo hhi ho, m_numF hlo hhi ho, bind2_eq, bind3_eq, if_neg (by decide), g70, ifp00, g_inb hj (by decide), g_inb hj (by decide), n_cl (by omega), GG_r1 hj, GG_s1 hj, letb_eq]
    exact Or.inr ⟨_, _, _, hC.2, rfl, rfl⟩
-- ===== a sea =====
theorem it_sea (h : TB B n T G) {e : Nat} {S : Rw} (hI : Inv 9999 S) (he : e ≤ n) (hy : tY B n e = 1) : Itm T G J B n u d e (fX4_takeSea (TT T B n (tC B n e)) (encL S u d)) (bind2 (fX6_advance (GG (mG G S) B n 1 e) (JJ J B n e)) (fun (G_74 : M2) (J_75 : J2) => bind3 (fX6_wantNumber (0 : Int32) (27 : Int32) G_74 J_75) (fun (r_77 : Int32) (G_78 : M2) (J_79 : J2) => (if (G_78 0 7) = 0 then fX6_wantItem_c58  r_77 (0 : Int32) G_78 J_79 else bind3 (fX6_wantNumber (0 : Int32) (12 : Int32) G_78 J_79) (fun (r_82 : Int32) (G_83 : M2) (J_84 : J2) => fX6_wantItem_c58  r_77 r_82 G_83 J_84))))) := by
  have hC := tC_le (B := B) he
  have hS := tS_le (B := B) he
  have hg := tC_gt he (show tY B n e ≠ 0 by omega)
  have hC2 := tC_le (B := B) hC.2
  have hS2 := tS_le (B := B) hC.2
  have hC3 := tC_le (B := B) hC2.2
  have hS3 := tS_le (B := B) hC2.2
  have g7 : ∀ e, GG (mG G S) B n 1 e 0 7 = 1 := fun _ => rfl
  have g70 : ∀ e, GG (mG G S) B n 0 e 0 7 = 0 := fun _ => rfl
  have n27 : (27 : Int32) = nI 27 := rfl
  have n12 : (12 : Int32) = nI 12 := rfl
  unfold fX4_takeSea
  rw [m_nx (h.mG S) he (by rw [hy]; decide), bind2_eq]
  by_cases ho : okN B n (tC B n e) 0 27
  · have hv := ho.2.2
    have c1 := c_numT h hC.2 (by decide) ho
    have m1 := m_numT (J := J) (h.mG S) hC.2 (by decide) ho
    rw [show nI 0 = (0 : Int32) from rfl] at c1 m1
    rw [n27, c1, m1, bind2_eq, bind3_eq, if_pos (i_pos (by omega)), g7, ifn10]
    by_cases ho2 : okN B n (tC B n (tC B n e)) 0 12
    · have hv2 := ho2.2.2
      have c2 := c_numT h hC2.2 (by decide) ho2
      have m2 := m_numT (J := J) (h.mG S) hC2.2 (by decide) ho2
      rw [show nI 0 = (0 : Int32) from rfl] at c2 m2
      rw [n12, c2, m2, bind2_eq, bind3_eq, if_pos (i_pos (by omega)), g_inb (by omega) (by decide), n_cl (by omega), encL_s1 (by omega), letb_eq]
      unfold fX6_wantItem_c58 fX6_wantItem_c76 fX6_wantItem_c147
      rw [g7, ifn10, show (7 : Int32) + nI (tV B n (tC B n e)) = nI (7 + tV B n (tC B n e)) from n_add 7 _, g_inb (by omega) (by decide), n_cl (by omega), GG_s1 (by omega), letb_eq]
      exact Or.inl ⟨_, _, by omega, hC3.2, Inv.set hI (by rw [bnd_sea (by omega)]; exact hv2) (by omega), rfl, rfl⟩
    · have c2 := c_numF (T := T) (p := 0) (q := 12) (by decide) (by decide) ho2
      have m2 := m_numF (G := mG G S) (J := J) (p := 0) (q := 12) (by decide) (by decide) ho2
      rw [show nI 0 = (0 : Int32) from rfl] at c2 m2
      rw [n12, c2, m2, bind2_eq, bind3_eq, if_neg (by decide)]
      unfold fX6_wantItem_c58 fX6_wantItem_c76 fX6_wantItem_c147
      rw [g70, ifp00]
      exact Or.inr ⟨_, _, _, hC2.2, rfl, rfl⟩
  · have c1 := c_numF (T := T) (p := 0) (q := 27) (by decide) (by decide) ho
    have m1 := m_numF (G := mG G S) (J := J) (p := 0) (q := 27) (by decide) (by decide) ho
    rw [show nI 0 = (0 : Int32) from rfl] at c1 m1
    rw [n27, c1, m1, bind2_eq, bind3_eq, if_neg (by decide), g70, ifp00]
    unfold fX6_wantItem_c58 fX6_wantItem_c76 fX6_wantItem_c147
    rw [g70, ifp00]
    exact Or.inr ⟨_, _, _, hC.2, rfl, rfl⟩
theorem pm0 {S : Rw} (v : Nat) : fX1_putMeasure (nI 0) (nI v) (encL S u d) = some (encL (wr S 1 v) u d) := by
  unfold fX1_putMeasure fX1_putMeasure_c64
  rw [if_pos (show nI 0 = (0 : Int32) from rfl), encL_s0 (by decide), letb_eq]
theorem pm1 {S : Rw} (v : Nat) : fX1_putMeasure (nI 1) (nI v) (encL S u d) = some (encL (wr S 2 v) u d) := by
  unfold fX1_putMeasure fX1_putMeasure_c64
  rw [if_neg (by decide), if_pos (show nI 1 = (1 : Int32) from rfl), encL_s0 (by decide), letb_eq]
theorem pm2 {S : Rw} (v : Nat) : fX1_putMeasure (nI 2) (nI v) (encL S u d) = some (encL (wr S 3 v) u d) := by
  unfold fX1_putMeasure fX1_putMeasure_c64
  rw [if_neg (by decide), if_neg (by decide), if_pos (show nI 2 = (2 : Int32) from rfl), encL_s0 (by decide), letb_eq]
-- ===== an item =====
theorem it_item (h : TB B n T G) {e : Nat} {S : Rw} (hI : Inv 9999 S) (he : e ≤ n) : Itm T G J B n u d e (fX4_takeItem (TT T B n e) (encL S u d)) (fX6_wantItem (GG (mG G S) B n 1 e) (JJ J B n e)) := by
  have hB := h.2.2.2.2.2
  obtain ⟨r, r1, r2, r3⟩ := kind_at (J := J) h he
  unfold fX4_takeItem fX6_wantItem
  rw [r1, r2, bind_eq, bind_eq]
  rcases r3 with ⟨k, hk, rfl, hy⟩ | rfl
  · rw [if_neg (i_nneg (by omega)), if_neg (i_nneg (by omega)), bind_eq]
    rcases it_keeper (J := J) (u := u) (d := d) h hI hk he hy with ⟨e', S', k1, k2, k3, k4, k5⟩ | ⟨e', S', S'', k2, k4, k5⟩
    · rw [k4, k5, bind3_eq, bind2_eq]
      exact Or.inl ⟨e', S', k1, k2, k3, rfl, rfl⟩
    · rw [k4, k5, bind3_eq, bind2_eq]
      exact Or.inr ⟨e', S', S'', k2, rfl, rfl⟩
  · rw [if_pos (by decide), if_pos (by decide)]
    by_cases w8 : isW B n e 8
    · rw [c_twT h he (by decide) w8, bind2_eq, ifn10, m_wT hB 8 (by decide) w8 13987 rfl, bind_eq, ifn10]
      rcases it_sea (J := J) (u := u) (d := d) h hI he w8.1 with ⟨e', S', k1, k2, k3, k4, k5⟩ | ⟨e', S', S'', k2, k4, k5⟩
      · rw [k4, k5, bind3_eq]
        exact Or.inl ⟨e', S', k1, k2, k3, rfl, rfl⟩
      · rw [k4, k5, bind3_eq]
        exact Or.inr ⟨e', S', S'', k2, rfl, rfl⟩
    · rw [c_twF h he (by decide) w8, bind2_eq, ifp00, m_wF hB 8 (by decide) w8 13987 rfl, bind_eq, ifp00]
      by_cases w9 : isW B n e 9
      · rw [c_twT h he (by decide) w9, bind2_eq, ifn10, m_wT hB 9 (by decide) w9 365321 rfl, bind_eq, ifn10]
        rcases it_light (J := J) (u := u) (d := d) (m := 0) (at' := 1) (lo := 0) (hi := 12) h hI he w9.1 (by decide) rfl rfl (by decide) (by decide) (by decide) (Nat.le_refl _) (by omega) pm0 with ⟨e', S', k1, k2, k3, k4, k5⟩ | ⟨e', S', S'', k2, k4, k5⟩
        · rw [show fX4_takeMeasure (0 : Int32) _ _ = _ from k4, show fX6_wantLight (1 : Int32) (0 : Int32) (12 : Int32) _ _ = _ from k5, bind3_eq, bind2_eq]
          exact Or.inl ⟨e', S', k1, k2, k3, rfl, rfl⟩
        · rw [show fX4_takeMeasure (0 : Int32) _ _ = _ from k4, show fX6_wantLight (1 : Int32) (0 : Int32) (12 : Int32) _ _ = _ from k5, bind3_eq, bind2_eq]
          exact Or.inr ⟨e', S', S'', k2, rfl, rfl⟩
      · rw [c_twF h he (by decide) w9, bind2_eq, ifp00, m_wF hB 9 (by decide) w9 365321 rfl, bind_eq, ifp00]
        by_cases w10 : isW B n e 10
        · rw [c_twT h he (by decide) w10, bind2_eq, ifn10, m_wT hB 10 (by decide) w10 11190 rfl, bind_eq, ifn10]
          rcases it_light (J := J) (u := u) (d := d) (m := 1) (at' := 2) (lo := 0) (hi := 9999) h hI he w10.1 (by decide) rfl rfl (by decide) (by decide) (by decide) (Nat.le_refl _) (by omega) pm1 with ⟨e', S', k1, k2, k3, k4, k5⟩ | ⟨e', S', S'', k2, k4, k5⟩
          · rw [show fX4_takeMeasure (1 : Int32) _ _ = _ from k4, show fX6_wantLight (2 : Int32) (0 : Int32) (9999 : Int32) _ _ = _ from k5, bind3_eq, bind2_eq]
            exact Or.inl ⟨e', S', k1, k2, k3, rfl, rfl⟩
          · rw [show fX4_takeMeasure (1 : Int32) _ _ = _ from k4, show fX6_wantLight (2 : Int32) (0 : Int32) (9999 : Int32) _ _ = _ from k5, bind3_eq, bind2_eq]
            exact Or.inr ⟨e', S', S'', k2, rfl, rfl⟩
        · rw [c_twF h he (by decide) w10, bind2_eq, ifp00, m_wF hB 10 (by decide) w10 11190 rfl, bind_eq, ifp00]
          by_cases w11 : isW B n e 11
          · rw [c_twT h he (by decide) w11, bind2_eq, ifn10, m_wT hB 11 (by decide) w11 43138 rfl, bind_eq, ifn10]
            rcases it_light (J := J) (u := u) (d := d) (m := 2) (at' := 3) (lo := 1) (hi := 3) h hI he w11.1 (by decide) rfl rfl (by decide) (by decide) (by decide) (Nat.le_refl _) (by omega) pm2 with ⟨e', S', k1, k2, k3, k4, k5⟩ | ⟨e', S', S'', k2, k4, k5⟩
            · rw [show fX4_takeMeasure (2 : Int32) _ _ = _ from k4, show fX6_wantLight (3 : Int32) (1 : Int32) (3 : Int32) _ _ = _ from k5, bind3_eq, bind2_eq]
              exact Or.inl ⟨e', S', k1, k2, k3, rfl, rfl⟩
            · rw [show fX4_takeMeasure (2 : Int32) _ _ = _ from k4, show fX6_wantLight (3 : Int32) (1 : Int32) (3 : Int32) _ _ = _ from k5, bind3_eq, bind2_eq]
              exact Or.inr ⟨e', S', S'', k2, rfl, rfl⟩
          · rw [c_twF h he (by decide) w11, bind2_eq, ifp00, m_wF hB 11 (by decide) w11 43138 rfl, bind_eq, ifp00]
            refine Or.inr ⟨e, S, S, he, rfl, ?_⟩
            have es0 : st2 (GG (mG G S) B n 1 e) 0 (upd (GG (mG G S) B n 1 e 0) 7 0) = GG (mG G S) B n 0 e := gk_s7
            rw [es0]
            rfl
end IU
