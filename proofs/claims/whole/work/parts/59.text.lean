section TE
variable {T G : M2} {J : J2} {B : Nat → Nat} {n : Nat} {u d : Int32}
theorem text_lp (h : TB B n T G) : ∀ m y e fc fm {S : Rw} {a b x : Int32} {w : Int64}, 2 * y ≤ e → e ≤ n → n < e + m → m < fc → m + 1 < fm → Inv 9999 S →
    ∃ r S' S'' g y' e', fX4_takeText_c6 fc (nI (y + 1)) (TT T B n e) (encL S u d) = some (r, TT T B n e', encL S' u d) ∧ fX6_text_c23 fm (nI y) 1 (gk (mG G S) a b (nI e) x 1) (jk J w) = fX6_text_c71 (nI y') (GG (mG G S'') B n g e') (JJ J B n e') ∧ e' ≤ n ∧ ((r = nI y' ∧ g = 1 ∧ tY B n e' = 0 ∧ S'' = S' ∧ Inv 9999 S' ∧ 0 < y' ∧ y' ≤ 120) ∨ (r = -1 - nI (tS B n e') ∧ (g = 0 ∨ g = 1 ∧ tY B n e' ≠ 0))) := by
  have hn := h.1
  intro m
  induction m with
  | zero =>
    intro y e fc fm S a b x w h1 h2 h3
    omega
  | succ m ih =>
    intro y e fc fm S a b x w h1 he h3 hc hm hI
    obtain ⟨q, rfl⟩ : ∃ q, fc = q + 1 := ⟨fc - 1, by omega⟩
    obtain ⟨r, rfl⟩ : ∃ r, fm = r + 1 := ⟨fm - 1, by omega⟩
    obtain ⟨r, rfl⟩ : ∃ r', r = r' + 1 := ⟨r - 1, by omega⟩
    have stop : ∀ (y : Nat) (X : M2) (Z : J2), fX6_text_c66 (fX6_text_c23 (r + 1)) (nI y) X Z = fX6_text_c71 (nI y) X Z := by
      intro y X Z
      unfold fX6_text_c66 fX6_text_c67
      rw [fX6_text_c23, ifp00]
    rw [fX4_takeText_c6, fX6_text_c23, ifn10, if_neg (show ¬ (120 : Int32) < nI (y + 1) from i_nlt (a := 120) (by decide) (by omega) (by omega)), m_adv (h.mG S) he, bind2_eq]
    rcases it_item (J := J) (u := u) (d := d) h hI he with ⟨e', S', k1, k2, k3, k4, k5⟩ | ⟨e', S', S'', k2, k4, k5⟩
    · have t1 : TT T B n e' 0 1 = nI (tY B n e') := rfl
      have t2 : TT T B n e' 0 2 = nI (tS B n e') := rfl
      have g7 : GG (mG G S') B n 1 e' 0 7 = 1 := rfl
      have g3 : GG (mG G S') B n 1 e' 0 3 = nI (tQ B n e') := rfl
      have g6 : GG (mG G S') B n 1 e' 0 6 = tX B n e' := rfl
      have hy4 := tY_4 (B := B) (n := n) e'
      have hq3 := tQ_3 (B := B) (n := n) e'
      have hS := tS_le (B := B) k2
      have hC := tC_le (B := B) k2
      rw [k4, k5, bind3_eq, bind2_eq, letb_eq, g7, ifn10, ifn10, t1, g3, g6, show nI y + (1 : Int32) = nI (y + 1) from n_add y 1]
      by_cases y0 : tY B n e' = 0
      · have q0 : tQ B n e' = 0 := by unfold tQ; rw [y0]; rfl
        rw [y0, q0, if_pos (show nI 0 = (0 : Int32) from rfl), if_neg (show ¬ nI 0 = (3 : Int32) by decide), stop]
        exact ⟨_, S', S', 1, y + 1, e', rfl, rfl, k2, Or.inl ⟨rfl, rfl, y0, rfl, k3, by omega, by omega⟩⟩
      · rw [if_neg (show ¬ nI (tY B n e') = (0 : Int32) from i_ne0 (by omega) y0)]
        by_cases y3 : tY B n e' = 3
        · have q3 : tQ B n e' = 3 := by unfold tQ; rw [y3]; rfl
          have hg := tC_gt k2 (show tY B n e' ≠ 0 by omega)
          have hs : tS B n e' < n := by omega
          have hcl : cl (B (tS B n e')) = 3 := by
            have := y3
            unfold tY at this
            rw [if_pos hs] at this
            exact this
          have ex : tX B n e' = 59 := by
            unfold tX bq
            rw [if_neg (by omega), if_pos hs, cl_3.mp hcl]
            rfl
          have em : tM B n e' = tC B n e' := if_neg (by omega)
          rw [y3, q3, if_pos (show nI 3 = (3 : Int32) from rfl), if_pos (show nI 3 = (3 : Int32) from rfl), ex, if_pos rfl, c_nx h k2, bind_eq, letb_eq, show nI (y + 1) + (1 : Int32) = nI (y + 1 + 1) from n_add (y + 1) 1]
          unfold fX6_text_c67
          obtain ⟨rr, R1, R2, gg, yy, ee, w1, w2, w3, w4⟩ := ih (y + 1) (tC B n e') q (r + 1) (S := S') (a := nI (tQ B n e')) (b := nI (tS B n e')) (x := tX B n e') (w := tW B n e') (by omega) hC.2 (by omega) (by omega) (by omega) k3
          refine ⟨rr, R1, R2, gg, yy, ee, w1, ?_, w3, w4⟩
          rw [← w2]
          unfold GG JJ
          rw [em]
        · have fin : fX4_takeText_c40 (TT T B n e') (encL S' u d) = some (-1 - nI (tS B n e'), TT T B n e', encL S' u d) := by
            unfold fX4_takeText_c40 fX4_takeText_c53
            rw [t2]
          rw [if_neg (show ¬ nI (tY B n e') = (3 : Int32) from i_ne (b := 3) (by omega) (by decide) y3), fin]
          refine ⟨_, S', S', 1, y + 1, e', rfl, ?_, k2, Or.inr ⟨rfl, Or.inr ⟨rfl, y0⟩⟩⟩
          by_cases y4 : tY B n e' = 4
          · have hs : tS B n e' < n := by
              unfold tY at y4
              split at y4
              · assumption
              · omega
            have hcl : cl (B (tS B n e')) = 4 := by
              have := y4
              unfold tY at this
              rw [if_pos hs] at this
              exact this
            have hb := h.2.2.2.2.2 (tS B n e')
            have ex : tX B n e' = nI (B (tS B n e')) := by
              unfold tX bq
              rw [if_neg (by omega), if_pos hs]
            have hne : B (tS B n e') ≠ 59 := fun q => by
              have := cl_3.mpr q
              omega
            have q3 : tQ B n e' = 3 := if_pos y4
            rw [q3, if_pos (show nI 3 = (3 : Int32) from rfl), ex, if_neg (show ¬ nI (B (tS B n e')) = (59 : Int32) from i_ne (b := 59) (by omega) (by decide) hne), stop]
          · have q3 : tQ B n e' ≠ 3 := by unfold tQ; rw [if_neg y4]; exact y3
            rw [if_neg (show ¬ nI (tQ B n e') = (3 : Int32) from i_ne (b := 3) (by omega) (by decide) q3), stop]
    · have g7 : GG (mG G S'') B n 0 e' 0 7 = 0 := rfl
      have t2 : TT T B n e' 0 2 = nI (tS B n e') := rfl
      rw [k4, k5, bind3_eq, bind2_eq, letb_eq, g7, ifp00, ifp00, show nI y + (1 : Int32) = nI (y + 1) from n_add y 1, stop]
      unfold fX4_takeText_c20 fX4_takeText_c53
      rw [t2]
      exact ⟨_, S', S'', 0, y + 1, e', rfl, rfl, k2, Or.inr ⟨rfl, Or.inl rfl⟩⟩
end TE
section TF
variable {R1 R2 R3 : M2} {K : Int32} {T : M2} {SN : J2} {SZ : M2} {F : M1} {G : M2} {J : J2}
theorem neg_le : ∀ s, s < 121 → (-1 : Int32) - nI s ≤ 0 := by decide +kernel
theorem e_text (h : Rel R1 R2 R3 K T SN SZ F G J) : ∃ r R1' R2' T' G' J', fX5_text R1 R2 R3 K T SN SZ F = some (r, R1', R2', T') ∧ fX6_text G J = some (r, G', J') ∧ Rel R1' R2' R3 K T' SN SZ F G' J' := by
  obtain ⟨⟨R, u, d, Rt, ut, dt, Rk, uk, dk, T3, T4, T8, T9, hI, e1, e2, e3, e4, e5, e6, e7, e8, hK, e10, e11⟩, ⟨tl, htl, t1, t2, t3, t4⟩, h3, h4⟩ := h
  subst e1 e2 e3
  have hTB : TB (fun j => if j < 120 then (G 5 j).toNatClampNeg else 0) tl T (st2 G 9 (encG R)) := by
    have hb : ∀ j, j < 120 → (G 5 j).toNatClampNeg < 256 ∧ G 5 j = nI (G 5 j).toNatClampNeg := by
      intro j hj
      obtain ⟨b, hb, eb⟩ := t4 j hj
      rw [eb, n_cl (by omega)]
      exact ⟨hb, rfl⟩
    refine ⟨htl, t1, t2, fun j hj => ?_, fun j hj => ?_, fun j => ?_⟩
    · show T 1 j = nI (if j < 120 then (G 5 j).toNatClampNeg else 0)
      rw [if_pos hj, t3 j hj]; exact (hb j hj).2
    · show G 5 j = nI (if j < 120 then (G 5 j).toNatClampNeg else 0)
      rw [if_pos hj]; exact (hb j hj).2
    · show (if j < 120 then (G 5 j).toNatClampNeg else 0) < 256
      split
      · rename_i hj; exact (hb j hj).1
      · omega
  generalize hB : (fun j => if j < 120 then (G 5 j).toNatClampNeg else 0) = B at hTB
  have hG1 : mG (st2 G 9 (encG R)) R = st2 G 9 (encG R) := mG_self (by rw [st2_ne _ _ (by decide)]; exact e4)
  obtain ⟨r, S', S'', g, y', e', q1, q2, q3, q4⟩ := text_lp (J := J) (u := ut) (d := dt) hTB 121 0 0 FU FU (S := R) (a := G 0 3) (b := G 0 4) (x := G 0 6) (w := J 0 0) (by omega) (by omega) (by omega) (by rw [FU_eq]; omega) (by rw [FU_eq]; omega) hI
  have hcT : fX4_takeText T (encL R ut dt) = some (r, TT T B tl e', encL S' ut dt) := by
    unfold fX4_takeText fX3_goToFirstToken
    have s3 := tk_s3 (T := T) (a := T 0 1) (b := T 0 2) (c := T 0 3) (d := T 0 4) (x := nI 0)
    rw [tk_self] at s3
    rw [show (0 : Int32) = nI 0 from rfl, s3, letb_eq, c_next hTB (by omega), bind_eq, bind_eq]
    exact q1
  have hmT : fX6_text G J = fX6_text_c71 (nI y') (GG (mG (st2 G 9 (encG R)) S'') B tl g e') (JJ J B tl e') := by
    unfold fX6_text
    have s5 := gk_s5 (G := st2 G 9 (encG R)) (a := G 0 3) (b := G 0 4) (c := G 0 5) (d := G 0 6) (e := G 0 7) (x := nI 0)
    have ss : gk (st2 G 9 (encG R)) (G 0 3) (G 0 4) (G 0 5) (G 0 6) (G 0 7) = st2 G 9 (encG R) := gk_self
    rw [ss] at s5
    rw [mv9_1 e4 e8, bind_eq, show (0 : Int32) = nI 0 from rfl, s5, letb_eq, gk_s7, letb_eq]
    rw [hG1, jk_self] at q2
    exact q2
  unfold fX5_text fX5_startTrial
  rw [c_like, bind_eq, bind_eq, hcT, bind3_eq, hmT]
  have hS := tS_le (B := B) q3
  have hq3 := tQ_3 (B := B) (n := tl) e'
  unfold fX5_text_c31
  rcases q4 with ⟨rfl, rfl, k3, rfl, k5, k6, k7⟩ | ⟨rfl, k2⟩
  · have g7 : GG (mG (st2 G 9 (encG R)) S'') B tl 1 e' 0 7 = 1 := rfl
    have g3 : GG (mG (st2 G 9 (encG R)) S'') B tl 1 e' 0 3 = 0 := by
      show nI (tQ B tl e') = 0
      unfold tQ
      rw [k3]
      rfl
    have es : st2 (GG (mG (st2 G 9 (encG R)) S'') B tl 1 e') 0 (upd (GG (mG (st2 G 9 (encG R)) S'') B tl 1 e' 0) 7 1) = GG (mG (st2 G 9 (encG R)) S'') B tl 1 e' := gk_s7
    unfold fX6_text_c71 fX6_text_c91
    rw [if_neg (show ¬ nI y' ≤ 0 from i_nle (b := 0) (by omega) (by decide) k6), c_like, bind_eq, letb_eq, g7, ifn10, g3, ifp00, grd_if (by decide), es, letb_eq, letb_eq]
    refine ⟨_, _, _, _, st2 (GG (mG (st2 G 9 (encG R)) S'') B tl 1 e') 0 (upd (GG (mG (st2 G 9 (encG R)) S'') B tl 1 e' 0) 2 0), JJ J B tl e', rfl, ?_, ?_⟩
    · rw [st2_eq, upd_ne _ _ (show 7 ≠ 2 by decide), g7, ifn10]
    · exact ⟨⟨S'', u, d, S'', ut, dt, Rk, uk, dk, T3, T4, T8, R, k5, rfl, rfl, rfl, rfl, e5, e6, e7, rfl, hK, e10, e11⟩, ⟨0, by omega, rfl, rfl, t3, t4⟩, h3, h4⟩
  · have key : fX6_text_c71 (nI y') (GG (mG (st2 G 9 (encG R)) S'') B tl g e') (JJ J B tl e') = fX6_text_c91 (nI y') 0 (GG (mG (st2 G 9 (encG R)) S'') B tl g e') (JJ J B tl e') := by
      have g7 : GG (mG (st2 G 9 (encG R)) S'') B tl g e' 0 7 = g := rfl
      have g3 : GG (mG (st2 G 9 (encG R)) S'') B tl g e' 0 3 = nI (tQ B tl e') := rfl
      unfold fX6_text_c71 fX6_text_c90
      rw [g7, g3]
      rcases k2 with rfl | ⟨rfl, k2⟩
      · rw [ifp00]
      · rw [ifn10, if_neg]
        refine i_ne0 (by omega) ?_
        unfold tQ
        split <;> omega
    have es : st2 (GG (mG (st2 G 9 (encG R)) S'') B tl g e') 0 (upd (GG (mG (st2 G 9 (encG R)) S'') B tl g e' 0) 7 0) = GG (mG (st2 G 9 (encG R)) S'') B tl 0 e' := gk_s7
    have g70 : GG (mG (st2 G 9 (encG R)) S'') B tl 0 e' 0 7 = 0 := rfl
    rw [if_pos (neg_le _ (by omega)), letb_eq, key]
    unfold fX6_text_c91
    rw [grd_if (by decide), es, letb_eq, letb_eq]
    refine ⟨_, _, _, _, st2 (st2 (GG (mG (st2 G 9 (encG R)) S'') B tl 0 e') 0 (upd (GG (mG (st2 G 9 (encG R)) S'') B tl 0 e' 0) 2 0)) 1 (encG R), JJ J B tl e', rfl, ?_, ?_⟩
    · rw [st2_eq, upd_ne _ _ (show 7 ≠ 2 by decide), g70, ifp00, mv9_0 (R := S'') (T := R) rfl rfl, bind_eq]
      rfl
    · exact ⟨⟨R, u, d, S', ut, dt, Rk, uk, dk, T3, T4, T8, R, hI, rfl, rfl, rfl, rfl, e5, e6, e7, rfl, hK, e10, e11⟩, ⟨0, by omega, rfl, rfl, t3, t4⟩, h3, h4⟩
end TF
