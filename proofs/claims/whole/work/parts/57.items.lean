section IT
variable {T G : M2} {J : J2} {B : Nat → Nat} {n : Nat} {g u d : Int32}
theorem c_twT (h : TB B n T G) {e i : Nat} (he : e ≤ n) (hi : i < 12) (hw : isW B n e i) : fX3_takeWord i (TT T B n e) = some (1, TT T B n (tC B n e)) := by
  unfold fX3_takeWord
  rw [c_showT h he hi hw, bind_eq, ifn10, c_nx h he, bind_eq]
theorem c_twF (h : TB B n T G) {e i : Nat} (he : e ≤ n) (hi : i < 12) (hw : ¬ isW B n e i) : fX3_takeWord i (TT T B n e) = some (0, TT T B n e) := by
  unfold fX3_takeWord
  rw [c_showF h he hi hw, bind_eq, ifp00]
theorem m_wT (hB : ∀ j, B j < 256) {e : Nat} (i : Nat) (hi : i < 12) (hw : isW B n e i) (k : Int64) (hk : k = Int64.ofNat (cdN i)) : fX6_isWord k (GG G B n g e) (JJ J B n e) = some 1 := by rw [hk]; exact m_isT hB hi hw
theorem m_wF (hB : ∀ j, B j < 256) {e : Nat} (i : Nat) (hi : i < 12) (hw : ¬ isW B n e i) (k : Int64) (hk : k = Int64.ofNat (cdN i)) : fX6_isWord k (GG G B n g e) (JJ J B n e) = some 0 := by rw [hk]; exact m_isF hB hi hw
theorem kind_at (h : TB B n T G) {e : Nat} (he : e ≤ n) : ∃ r, fX4_kindShown (TT T B n e) = some r ∧ (∀ (G : M2) (g : Int32), fX6_kindHere (GG G B n g e) (JJ J B n e) = some r) ∧ ((∃ k, k ≤ 5 ∧ r = nI k ∧ tY B n e = 1) ∨ r = -1) := by
  have hB := h.2.2.2.2.2
  unfold fX4_kindShown fX6_kindHere fX4_kindShown_c69 fX6_kindHere_c85
  by_cases h0 : isW B n e 0
  · refine ⟨nI 0, ?_, fun G g => ?_, Or.inl ⟨0, by decide, rfl, h0.1⟩⟩
    · rw [c_showT h he (by decide) h0, bind_eq, ifn10]; rfl
    · rw [m_wT hB 0 (by decide) h0 160605414 rfl, bind_eq, ifn10]; rfl
  · by_cases h1 : isW B n e 1
    · refine ⟨nI 1, ?_, fun G g => ?_, Or.inl ⟨1, by decide, rfl, h1.1⟩⟩
      · rw [c_showF h he (by decide) h0, bind_eq, ifp00, c_showT h he (by decide) h1, bind_eq, ifn10]; rfl
      · rw [m_wF hB 0 (by decide) h0 160605414 rfl, bind_eq, ifp00, m_wT hB 1 (by decide) h1 1041492564 rfl, bind_eq, ifn10]; rfl
    · by_cases h2 : isW B n e 2
      · refine ⟨nI 2, ?_, fun G g => ?_, Or.inl ⟨2, by decide, rfl, h2.1⟩⟩
        · rw [c_showF h he (by decide) h0, bind_eq, ifp00, c_showF h he (by decide) h1, bind_eq, ifp00, c_showT h he (by decide) h2, bind_eq, ifn10]; rfl
        · rw [m_wF hB 0 (by decide) h0 160605414 rfl, bind_eq, ifp00, m_wF hB 1 (by decide) h1 1041492564 rfl, bind_eq, ifp00, m_wT hB 2 (by decide) h2 11263 rfl, bind_eq, ifn10]; rfl
      · by_cases h3 : isW B n e 3
        · refine ⟨nI 3, ?_, fun G g => ?_, Or.inl ⟨3, by decide, rfl, h3.1⟩⟩
          · rw [c_showF h he (by decide) h0, bind_eq, ifp00, c_showF h he (by decide) h1, bind_eq, ifp00, c_showF h he (by decide) h2, bind_eq, ifp00, c_showT h he (by decide) h3, bind_eq, ifn10]; rfl
          · rw [m_wF hB 0 (by decide) h0 160605414 rfl, bind_eq, ifp00, m_wF hB 1 (by decide) h1 1041492564 rfl, bind_eq, ifp00, m_wF hB 2 (by decide) h2 11263 rfl, bind_eq, ifp00, m_wT hB 3 (by decide) h3 10364 rfl, bind_eq, ifn10]; rfl
        · by_cases h4 : isW B n e 4
          · refine ⟨nI 4, ?_, fun G g => ?_, Or.inl ⟨4, by decide, rfl, h4.1⟩⟩
            · rw [c_showF h he (by decide) h0, bind_eq, ifp00, c_showF h he (by decide) h1, bind_eq, ifp00, c_showF h he (by decide) h2, bind_eq, ifp00, c_showF h he (by decide) h3, bind_eq, ifp00, c_showT h he (by decide) h4, bind_eq, ifn10]; rfl
            · rw [m_wF hB 0 (by decide) h0 160605414 rfl, bind_eq, ifp00, m_wF hB 1 (by decide) h1 1041492564 rfl, bind_eq, ifp00, m_wF hB 2 (by decide) h2 11263 rfl, bind_eq, ifp00, m_wF hB 3 (by decide) h3 10364 rfl, bind_eq, ifp00, m_wT hB 4 (by decide) h4 410684 rfl, bind_eq, ifn10]; rfl
          · by_cases h5 : isW B n e 5
            · refine ⟨nI 5, ?_, fun G g => ?_, Or.inl ⟨5, by decide, rfl, h5.1⟩⟩
              · rw [c_showF h he (by decide) h0, bind_eq, ifp00, c_showF h he (by decide) h1, bind_eq, ifp00, c_showF h he (by decide) h2, bind_eq, ifp00, c_showF h he (by decide) h3, bind_eq, ifp00, c_showF h he (by decide) h4, bind_eq, ifp00, c_showT h he (by decide) h5, bind_eq, ifn10]; rfl
              · rw [m_wF hB 0 (by decide) h0 160605414 rfl, bind_eq, ifp00, m_wF hB 1 (by decide) h1 1041492564 rfl, bind_eq, ifp00, m_wF hB 2 (by decide) h2 11263 rfl, bind_eq, ifp00, m_wF hB 3 (by decide) h3 10364 rfl, bind_eq, ifp00, m_wF hB 4 (by decide) h4 410684 rfl, bind_eq, ifp00, m_wT hB 5 (by decide) h5 257153 rfl, bind_eq, ifn10]; rfl
            · refine ⟨-1, ?_, fun G g => ?_, Or.inr rfl⟩
              · rw [c_showF h he (by decide) h0, bind_eq, ifp00, c_showF h he (by decide) h1, bind_eq, ifp00, c_showF h he (by decide) h2, bind_eq, ifp00, c_showF h he (by decide) h3, bind_eq, ifp00, c_showF h he (by decide) h4, bind_eq, ifp00, c_showF h he (by decide) h5, bind_eq, ifp00]
              · rw [m_wF hB 0 (by decide) h0 160605414 rfl, bind_eq, ifp00, m_wF hB 1 (by decide) h1 1041492564 rfl, bind_eq, ifp00, m_wF hB 2 (by decide) h2 11263 rfl, bind_eq, ifp00, m_wF hB 3 (by decide) h3 10364 rfl, bind_eq, ifp00, m_wF hB 4 (by decide) h4 410684 rfl, bind_eq, ifp00, m_wF hB 5 (by decide) h5 257153 rfl, bind_eq, ifp00]
-- ===== what one knows =====
theorem know_lp (h : TB B n T G) {k : Int32} {L : M2} : ∀ m i e s fc fm, i + m = 4 → e ≤ n → s ≤ 511 → m < fc → m + 1 < fm →
    (∃ e' s', e ≤ e' ∧ e' ≤ n ∧ s' ≤ 511 ∧ fX4_takeKnownWords_c5 fc k (nI s) (nI i) (TT T B n e) L = fX4_takeKnownWords_c56 k (nI s') (TT T B n e') L ∧ fX6_mayKnow_c27 fm (nI s) (nI i) (GG G B n 1 e) (JJ J B n e) = some (nI s', GG G B n 1 e', JJ J B n e')) ∨
    (∃ e' x, e ≤ e' ∧ e' ≤ n ∧ fX4_takeKnownWords_c5 fc k (nI s) (nI i) (TT T B n e) L = some (0, TT T B n e', L) ∧ fX6_mayKnow_c27 fm (nI s) (nI i) (GG G B n 1 e) (JJ J B n e) = some (x, GG G B n 0 e', JJ J B n e')) := by
  have hn := h.1
  intro m
  induction m with
  | zero =>
    intro i e s fc fm hi he hs hc hm
    obtain ⟨q, rfl⟩ : ∃ q, fc = q + 1 := ⟨fc - 1, by omega⟩
    obtain ⟨r, rfl⟩ : ∃ r, fm = r + 1 := ⟨fm - 1, by omega⟩
    have h4 : (4 : Int32) ≤ nI i := i_le (a := 4) (by decide) (by omega) (by omega)
    refine Or.inl ⟨e, s, Nat.le_refl _, he, hs, ?_, ?_⟩
    · rw [fX4_takeKnownWords_c5, if_pos h4]
    · rw [fX6_mayKnow_c27, if_pos h4]; rfl
  | succ m ih =>
    intro i e s fc fm hi he hs hc hm
    obtain ⟨q, rfl⟩ : ∃ q, fc = q + 1 := ⟨fc - 1, by omega⟩
    obtain ⟨r, rfl⟩ : ∃ r, fm = r + 1 := ⟨fm - 1, by omega⟩
    obtain ⟨r, rfl⟩ : ∃ r', r = r' + 1 := ⟨r - 1, by omega⟩
    have h4 : ¬ (4 : Int32) ≤ nI i := i_nle (a := 4) (by decide) (by omega) (by omega)
    have hq3 := tQ_3 (B := B) (n := n) e
    have hy4 := tY_4 (B := B) (n := n) e
    have g7 : GG G B n 1 e 0 7 = 1 := rfl
    have g3 : GG G B n 1 e 0 3 = nI (tQ B n e) := rfl
    have t1 : TT T B n e 0 1 = nI (tY B n e) := rfl
    have hC := tC_le (B := B) he
    have hS := tS_le (B := B) he
    -- the step over a number
    have step : (∃ e' s', e ≤ e' ∧ e' ≤ n ∧ s' ≤ 511 ∧ fX4_takeKnownWords_c27 (fX4_takeKnownWords_c5 q) k (nI s) (nI i) (TT T B n e) L = fX4_takeKnownWords_c56 k (nI s') (TT T B n e') L ∧ fX6_mayKnow_c51 (fX6_mayKnow_c27 (r + 1)) (nI s) (nI i) (GG G B n 1 e) (JJ J B n e) = some (nI s', GG G B n 1 e', JJ J B n e')) ∨
        (∃ e' x, e ≤ e' ∧ e' ≤ n ∧ fX4_takeKnownWords_c27 (fX4_takeKnownWords_c5 q) k (nI s) (nI i) (TT T B n e) L = some (0, TT T B n e', L) ∧ fX6_mayKnow_c51 (fX6_mayKnow_c27 (r + 1)) (nI s) (nI i) (GG G B n 1 e) (JJ J B n e) = some (x, GG G B n 0 e', JJ J B n e')) := by
      unfold fX4_takeKnownWords_c27 fX6_mayKnow_c51 fX6_mayKnow_c74 fX4_takeKnownWords_c41
      by_cases ho : okN B n e 0 8
      · have hv := ho.2.2
        have qc := c_numT h he (by decide) ho
        have qm := m_numT (J := J) h he (by decide) ho
        have g7' : GG G B n 1 (tC B n e) 0 7 = 1 := rfl
        have es : nI s ||| ((1 : Int32) <<< (nI (tV B n e) &&& 31)) = nI (s ||| 2 ^ tV B n e) := by rw [shl1 _ (by omega), fa_or]
        have hs' : s ||| 2 ^ tV B n e < 512 := or_lt (by omega) (Nat.pow_lt_pow_right (by omega) (by omega) : 2 ^ tV B n e < 2 ^ 9)
        rw [show (0 : Int32) = nI 0 from rfl, show (8 : Int32) = nI 8 from rfl, qc, qm, bind2_eq, bind3_eq, g7', show nI 0 = (0 : Int32) from rfl, ifn10, if_pos (i_pos (by omega)), letb_eq, letb_eq, letb_eq, letb_eq, es, show nI i + (1 : Int32) = nI (i + 1) from n_add i 1]
        rcases ih (i + 1) (tC B n e) (s ||| 2 ^ tV B n e) q (r + 1) (by omega) hC.2 (by omega) (by omega) (by omega) with ⟨e', s', k1, k2, k3, k4, k5⟩ | ⟨e', x, k1, k2, k4, k5⟩
        · exact Or.inl ⟨e', s', by omega, k2, k3, k4, k5⟩
        · exact Or.inr ⟨e', x, by omega, k2, k4, k5⟩
      · have qc := c_numF (T := T) (p := 0) (q := 8) (by decide) (by decide) ho
        have qm := m_numF (G := G) (J := J) (p := 0) (q := 8) (by decide) (by decide) ho
        have g70 : GG G B n 0 e 0 7 = 0 := rfl
        refine Or.inr ⟨e, nI s ||| 0, Nat.le_refl _, he, ?_, ?_⟩
        · rw [show (0 : Int32) = nI 0 from rfl, show (8 : Int32) = nI 8 from rfl, qc, bind2_eq, show nI 0 = (0 : Int32) from rfl, if_neg (by decide)]
        · rw [show (0 : Int32) = nI 0 from rfl, show (8 : Int32) = nI 8 from rfl, qm, bind3_eq, show nI 0 = (0 : Int32) from rfl, g70, ifp00, letb_eq, letb_eq, fX6_mayKnow_c27]
          unfold fX6_mayKnow_c82
          rw [g70, ifp00]
          split <;> rfl
    by_cases h0 : i = 0
    · subst h0
      rw [fX4_takeKnownWords_c5, fX6_mayKnow_c27, if_neg h4, if_neg h4, g7, ifn10, if_pos (show nI 0 ≤ 0 by decide), if_pos (show nI 0 = 0 from rfl)]
      exact step
    · rw [fX4_takeKnownWords_c5, fX6_mayKnow_c27, if_neg h4, if_neg h4, g7, ifn10, if_neg (show ¬ nI i ≤ 0 from i_nle (b := 0) (by omega) (by decide) (by omega)), if_neg (show ¬ nI i = 0 from i_ne0 (by omega) h0), t1, g3]
      by_cases h2 : tY B n e = 2
      · rw [h2, tQ_2 h2, if_pos (show nI 2 = (2 : Int32) from rfl), if_pos (show nI 2 = (2 : Int32) from rfl)]
        exact step
      · rw [if_neg (show ¬ nI (tY B n e) = (2 : Int32) from i_ne (b := 2) (by omega) (by decide) h2), if_neg (show ¬ nI (tQ B n e) = (2 : Int32) from i_ne (b := 2) (by omega) (by decide) (tQ_n2 h2))]
        exact Or.inl ⟨e, s, Nat.le_refl _, he, hs, rfl, rfl⟩
end IT
