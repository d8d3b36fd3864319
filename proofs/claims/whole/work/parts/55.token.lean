section TO
variable {T G : M2} {J : J2} {B : Nat → Nat} {n : Nat} {a b c d g x : Int32} {w : Int64}
-- ===== the token at a place =====
def tS (B : Nat → Nat) (n e : Nat) : Nat := ru (fun j => B j == 32) (n - e) e
def tY (B : Nat → Nat) (n e : Nat) : Nat := if tS B n e < n then cl (B (tS B n e)) else 0
def tC (B : Nat → Nat) (n e : Nat) : Nat := if tY B n e = 3 then tS B n e + 1 else ru (fun j => cl (B j) == tY B n e) (n - tS B n e) (tS B n e)
def tV (B : Nat → Nat) (n e : Nat) : Nat := vl B (tY B n e) (n - tS B n e) (tS B n e) 0
def tQ (B : Nat → Nat) (n e : Nat) : Nat := if tY B n e = 4 then 3 else tY B n e
def tM (B : Nat → Nat) (n e : Nat) : Nat := if tY B n e = 4 then tS B n e + 1 else tC B n e
def tX (B : Nat → Nat) (n e : Nat) : Int32 := if tY B n e = 2 then nI (tV B n e) else bq B n (tS B n e)
def tW (B : Nat → Nat) (n e : Nat) : Int64 := if tY B n e = 1 then wd B (tS B n e) (n - tS B n e) (tS B n e) 0 else 0
def TT (T : M2) (B : Nat → Nat) (n e : Nat) : M2 := tk T (nI (tY B n e)) (nI (tS B n e)) (nI (tC B n e)) (nI (tV B n e))
def GG (G : M2) (B : Nat → Nat) (n : Nat) (g : Int32) (e : Nat) : M2 := gk G (nI (tQ B n e)) (nI (tS B n e)) (nI (tM B n e)) (tX B n e) g
def JJ (J : J2) (B : Nat → Nat) (n e : Nat) : J2 := jk J (tW B n e)
theorem tS_le {e : Nat} (he : e ≤ n) : e ≤ tS B n e ∧ tS B n e ≤ n := by
  have := ru_le (fun j => B j == 32) (n - e) e
  unfold tS
  omega
theorem tY_4 (e : Nat) : tY B n e ≤ 4 := by
  unfold tY
  have := cl_4 (B (tS B n e))
  split <;> omega
theorem tC_le {e : Nat} (he : e ≤ n) : tS B n e ≤ tC B n e ∧ tC B n e ≤ n := by
  have h1 := tS_le (B := B) he
  have h2 := ru_le (fun j => cl (B j) == tY B n e) (n - tS B n e) (tS B n e)
  unfold tC
  split
  · rename_i h3
    unfold tY at h3
    split at h3
    · omega
    · omega
  · omega
theorem tC_gt {e : Nat} (he : e ≤ n) (h0 : tY B n e ≠ 0) : tS B n e < tC B n e := by
  have hy : tS B n e < n ∧ tY B n e = cl (B (tS B n e)) := by
    unfold tY at h0 ⊢
    split at h0
    · rename_i hh
      exact ⟨hh, if_pos hh⟩
    · exact absurd rfl h0
  unfold tC
  split
  · omega
  · obtain ⟨f, hf⟩ : ∃ f, n - tS B n e = f + 1 := ⟨n - tS B n e - 1, by omega⟩
    rw [hf, ru, if_pos (show (cl (B (tS B n e)) == tY B n e) = true by rw [beq_iff_eq]; exact hy.2.symm)]
    have := ru_le (fun j => cl (B j) == tY B n e) f (tS B n e + 1)
    omega
theorem tV_le (e : Nat) : tV B n e ≤ 10000 := vl_le _ _ _ _ (by omega)
theorem c_next (h : TB B n T G) {e : Nat} (he : e ≤ n) : fX3_goToNextToken (tk T a b (nI e) d) = some (TT T B n e) := by
  have hn := h.1
  have h1 := tS_le (B := B) he
  have h4 := tY_4 (B := B) (n := n) e
  unfold fX3_goToNextToken
  rw [tk_3, tk_s2, letb_eq, c_skip h (n - e) e FU (by omega) (by rw [FU_eq]; omega)]
  show fX3_goToNextToken_c46 (tk T a (nI (tS B n e)) (nI e) d) = _
  have key : ∀ y, y = tY B n e → fX3_goToNextToken_c74 (nI y) (tk T a (nI (tS B n e)) (nI e) d) = some (TT T B n e) := by
    intro y hy
    subst hy
    unfold fX3_goToNextToken_c74
    rw [tk_s1, letb_eq, show (0 : Int32) = nI 0 from rfl, tk_s4, letb_eq, tk_2, tk_s3, letb_eq, c_run h h4 (n - tS B n e) (tS B n e) 0 FU (by omega) (by rw [FU_eq]; omega) (by omega)]
    unfold fX3_goToNextToken_c171 fX3_goToNextToken_c189 TT tC tV
    rw [tk_1]
    by_cases h3 : tY B n e = 3
    · rw [h3, if_pos (show nI 3 = (3 : Int32) from rfl), if_pos rfl, tk_2, tk_s3, letb_eq, show nI (tS B n e) + (1 : Int32) = nI (tS B n e + 1) from n_add _ 1]
    · rw [if_neg (show ¬ nI (tY B n e) = (3 : Int32) from i_ne (b := 3) (by omega) (by decide) h3), if_neg h3]
  unfold fX3_goToNextToken_c46
  rw [tk_0, tk_2, tk_r, h.2.1]
  by_cases hc : tS B n e < n
  · rw [if_neg (i_nle (by omega) (by omega) hc), g_inb (by omega) (by omega), n_cl (by omega), h.2.2.2.1 _ (by omega), c_sort _ (h.2.2.2.2.2 _), bind_eq]
    exact key _ (by unfold tY; rw [if_pos hc])
  · rw [if_pos (i_le (by omega) (by omega) (by omega))]
    exact key 0 (by unfold tY; rw [if_neg hc])
theorem m_adv (h : TB B n T G) {e : Nat} (he : e ≤ n) : fX6_advance (gk G a b (nI e) d g) (jk J w) = some (GG G B n g e, JJ J B n e) := by
  have hn := h.1
  have h1 := tS_le (B := B) he
  have hb := h.2.2.2.2.2 (tS B n e)
  unfold fX6_advance
  rw [gk_5, gk_s4, letb_eq, m_skip h (n - e) e FU (by omega) (by rw [FU_eq]; omega)]
  show fX6_advance_c34 (gk G a (nI (tS B n e)) (nI e) d g) (jk J w) = _
  unfold fX6_advance_c34
  rw [gk_4, gk_s5, letb_eq, gk_4, m_byte h (by omega), bind_eq]
  have fin : ∀ y x, tY B n e ≠ 1 → tY B n e ≠ 2 → y ≠ 1 → y ≠ 2 → y < 1000 → tQ B n e = y → x = tX B n e → ∀ p, p = tM B n e → fX6_advance_c126 FU (gk G (nI y) (nI (tS B n e)) (nI p) x g) (jk J 0) = some (GG G B n g e, JJ J B n e) := by
    intro y x q1 q2 hy1 hy2 hy hq hx p hp
    rw [show FU = 3999 + 1 from rfl, fX6_advance_c126, gk_3, if_neg (show ¬ nI y = (1 : Int32) from i_ne (b := 1) (by omega) (by decide) hy1), show FU = 3999 + 1 from rfl, fX6_advance_c207, gk_3, if_neg (show ¬ nI y = (2 : Int32) from i_ne (b := 2) (by omega) (by decide) hy2)]
    unfold fX6_advance_c281 GG JJ tW
    rw [if_neg q1, hq, hx, hp]
  by_cases hc : tS B n e < n
  · have hy : tY B n e = cl (B (tS B n e)) := by unfold tY; rw [if_pos hc]
    have h4 := cl_4 (B (tS B n e))
    have ebt : bq B n (tS B n e) = nI (B (tS B n e)) := if_pos hc
    rw [if_pos (show 0 ≤ bq B n (tS B n e) by rw [ebt]; exact i_pos (by omega)), m_let_bt h, m_dig_bt h]
    by_cases k1 : cl (B (tS B n e)) = 1
    · rw [if_pos ⟨hc, k1⟩, bind_eq, ifn10]
      unfold fX6_advance_c83 fX6_advance_c105
      rw [gk_s3, letb_eq, jk_s, letb_eq, gk_3, if_neg (by decide), gk_s6, letb_eq, gk_3, if_neg (by decide), m_lt h (n - tS B n e) (tS B n e) FU (Nat.le_refl _) (by omega) (by rw [FU_eq]; omega)]
      unfold GG JJ tQ tM tX tW tC
      rw [hy, k1]
      rfl
    · rw [if_neg (show ¬ (tS B n e < n ∧ cl (B (tS B n e)) = 1) from fun q => k1 q.2), bind_eq, ifp00]
      by_cases k2 : cl (B (tS B n e)) = 2
      · rw [if_pos ⟨hc, k2⟩, bind_eq, ifn10]
        unfold fX6_advance_c83 fX6_advance_c105
        rw [gk_s3, letb_eq, jk_s, letb_eq, gk_3, if_pos rfl, gk_s6, letb_eq, gk_3, if_neg (by decide), show FU = 3999 + 1 from rfl, fX6_advance_c126, gk_3, if_neg (by decide), show (0 : Int32) = nI 0 from rfl, m_dg h (n - tS B n e) (tS B n e) 0 FU (by omega) (by rw [FU_eq]; omega) (by omega)]
        unfold GG JJ tQ tM tX tW tC tV
        rw [hy, k2]
        rfl
      · rw [if_neg (show ¬ (tS B n e < n ∧ cl (B (tS B n e)) = 2) from fun q => k2 q.2), bind_eq, ifp00]
        unfold fX6_advance_c83 fX6_advance_c105
        rw [gk_s3, letb_eq, jk_s, letb_eq, gk_3, if_neg (by decide), gk_s6, letb_eq, gk_3, if_pos rfl, gk_5, gk_s5, letb_eq, show nI (tS B n e) + (1 : Int32) = nI (tS B n e + 1) from n_add _ 1]
        refine fin 3 _ (by omega) (by omega) (by omega) (by omega) (by omega) ?_ ?_ _ ?_
        · unfold tQ
          rw [hy]
          split <;> omega
        · unfold tX
          rw [if_neg (by omega)]
        · unfold tM tC
          rw [hy]
          split
          · rfl
          · rw [if_pos (by omega)]
  · have hy : tY B n e = 0 := by unfold tY; rw [if_neg hc]
    have es : tS B n e = n := by omega
    have ebt : bq B n (tS B n e) = -1 := if_neg hc
    rw [if_neg (show ¬ 0 ≤ bq B n (tS B n e) by rw [ebt]; decide)]
    unfold fX6_advance_c83 fX6_advance_c105
    rw [gk_s3, letb_eq, jk_s, letb_eq, gk_3, if_neg (by decide), gk_s6, letb_eq, gk_3, if_neg (by decide)]
    refine fin 0 _ (by omega) (by omega) (by omega) (by omega) (by omega) ?_ ?_ _ ?_
    · unfold tQ
      rw [hy]; rfl
    · unfold tX
      rw [if_neg (by omega)]
    · unfold tM tC
      rw [hy, if_neg (by decide), if_neg (by decide), es, Nat.sub_self]
      rfl
theorem c_nx (h : TB B n T G) {e : Nat} (he : e ≤ n) : fX3_goToNextToken (TT T B n e) = some (TT T B n (tC B n e)) := c_next h (tC_le he).2
theorem m_nx (h : TB B n T G) {e : Nat} (he : e ≤ n) (h4 : tY B n e ≠ 4) : fX6_advance (GG G B n g e) (JJ J B n e) = some (GG G B n g (tC B n e), JJ J B n (tC B n e)) := by
  have em : tM B n e = tC B n e := if_neg h4
  unfold GG JJ
  rw [em]
  exact m_adv h (tC_le he).2
-- ===== numbers =====
def okN (B : Nat → Nat) (n e a b : Nat) : Prop := tY B n e = 2 ∧ a ≤ tV B n e ∧ tV B n e ≤ b
theorem c_numT (h : TB B n T G) {e p q : Nat} (he : e ≤ n) (hq : q < 100000) (ho : okN B n e p q) : fX3_takeNumber (nI p) (nI q) (TT T B n e) = some (nI (tV B n e), TT T B n (tC B n e)) := by
  unfold fX3_takeNumber
  have e1 : TT T B n e 0 1 = nI 2 := by unfold TT; rw [tk_1, ho.1]
  have e4 : TT T B n e 0 4 = nI (tV B n e) := rfl
  rw [e1, if_pos (show nI 2 = (2 : Int32) from rfl), e4, within_true (rng_of (by have := ho.2.1; have := ho.2.2; omega) (by omega) ho.2.1 ho.2.2), bind_eq, ifn10, letb_eq, c_nx h he, bind_eq]
theorem c_numF {e p q : Nat} (hp : p < 100000) (hq : q < 100000) (ho : ¬ okN B n e p q) : fX3_takeNumber (nI p) (nI q) (TT T B n e) = some (-1, TT T B n e) := by
  unfold fX3_takeNumber fX3_takeNumber_c20
  have e1 : TT T B n e 0 1 = nI (tY B n e) := rfl
  have e4 : TT T B n e 0 4 = nI (tV B n e) := rfl
  have h4 := tY_4 (B := B) (n := n) e
  have hv := tV_le (B := B) (n := n) e
  rw [e1, e4]
  by_cases h2 : tY B n e = 2
  · rw [h2, if_pos (show nI 2 = (2 : Int32) from rfl), within_false, bind_eq, ifp00]
    rw [n_le (by omega) (by omega), n_le (by omega) (by omega)]
    exact fun k => ho ⟨h2, k⟩
  · rw [if_neg (show ¬ nI (tY B n e) = (2 : Int32) from i_ne (b := 2) (by omega) (by decide) h2)]
theorem tQ_2 {e : Nat} (h : tY B n e = 2) : tQ B n e = 2 := by unfold tQ; rw [h]; rfl
theorem tQ_n2 {e : Nat} (h : tY B n e ≠ 2) : tQ B n e ≠ 2 := by unfold tQ; split <;> omega
theorem tQ_3 (e : Nat) : tQ B n e ≤ 3 := by have := tY_4 (B := B) (n := n) e; unfold tQ; split <;> omega
theorem m_numT (h : TB B n T G) {e p q : Nat} (he : e ≤ n) (hq : q < 100000) (ho : okN B n e p q) : fX6_wantNumber (nI p) (nI q) (GG G B n 1 e) (JJ J B n e) = some (nI (tV B n e), GG G B n 1 (tC B n e), JJ J B n (tC B n e)) := by
  unfold fX6_wantNumber fX6_wantNumber_c35 fX6_wantNumber_c49
  have e3 : GG G B n 1 e 0 3 = nI 2 := by unfold GG; rw [gk_3, tQ_2 ho.1]
  have e6 : GG G B n 1 e 0 6 = nI (tV B n e) := by unfold GG tX; rw [gk_6, if_pos ho.1]
  have e7 : GG G B n 1 e 0 7 = 1 := rfl
  have es : st2 (GG G B n 1 e) 0 (upd (GG G B n 1 e 0) 7 1) = GG G B n 1 e := gk_s7
  rw [e6, letb_eq, e7, ifn10, e3, if_pos (show nI 2 = (2 : Int32) from rfl), in_true (rng_of (by have := ho.2.1; have := ho.2.2; omega) (by omega) ho.2.1 ho.2.2), bind_eq, ifn10, grd_if (by decide), es, letb_eq, e7, ifn10, m_nx h he (by rw [ho.1]; decide), bind2_eq]
theorem m_numF {e p q : Nat} (hp : p < 100000) (hq : q < 100000) (ho : ¬ okN B n e p q) : fX6_wantNumber (nI p) (nI q) (GG G B n 1 e) (JJ J B n e) = some (tX B n e, GG G B n 0 e, JJ J B n e) := by
  have e3 : GG G B n 1 e 0 3 = nI (tQ B n e) := rfl
  have e6 : GG G B n 1 e 0 6 = tX B n e := rfl
  have e7 : GG G B n 1 e 0 7 = 1 := rfl
  have es : st2 (GG G B n 1 e) 0 (upd (GG G B n 1 e 0) 7 0) = GG G B n 0 e := gk_s7
  have e70 : GG G B n 0 e 0 7 = 0 := rfl
  have hq3 := tQ_3 (B := B) (n := n) e
  have hv := tV_le (B := B) (n := n) e
  have fin : fX6_wantNumber_c34 (tX B n e) (GG G B n 1 e) (JJ J B n e) = some (tX B n e, GG G B n 0 e, JJ J B n e) := by
    unfold fX6_wantNumber_c34 fX6_wantNumber_c35 fX6_wantNumber_c49
    rw [grd_if (by decide), es, letb_eq, e70, ifp00]
  unfold fX6_wantNumber
  rw [e6, letb_eq, e7, ifn10, e3]
  by_cases h2 : tY B n e = 2
  · have ex : tX B n e = nI (tV B n e) := if_pos h2
    rw [tQ_2 h2, if_pos (show nI 2 = (2 : Int32) from rfl), in_false, bind_eq, ifp00]
    · exact fin
    · rw [ex, n_le (by omega) (by omega), n_le (by omega) (by omega)]
      exact fun k => ho ⟨h2, k⟩
  · rw [if_neg (show ¬ nI (tQ B n e) = (2 : Int32) from i_ne (b := 2) (by omega) (by decide) (tQ_n2 h2))]
    exact fin
end TO
