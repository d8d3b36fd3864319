section TA
variable {T G : M2} {J : J2} {B : Nat → Nat} {n : Nat}
/-- the tape that both hold -/
def TB (B : Nat → Nat) (n : Nat) (T G : M2) : Prop := n ≤ 120 ∧ T 0 0 = nI n ∧ G 0 2 = nI n ∧ (∀ j, j < 120 → T 1 j = nI (B j)) ∧ (∀ j, j < 120 → G 5 j = nI (B j)) ∧ ∀ j, B j < 256
def tk (T : M2) (a b c d : Int32) : M2 := st2 T 0 (fun i => if i = 1 then a else if i = 2 then b else if i = 3 then c else if i = 4 then d else T 0 i)
def gk (G : M2) (a b c d e : Int32) : M2 := st2 G 0 (fun i => if i = 3 then a else if i = 4 then b else if i = 5 then c else if i = 6 then d else if i = 7 then e else G 0 i)
def jk (J : J2) (w : Int64) : J2 := st2 J 0 (vp_updL (J 0) 0 w)
variable {a b c d e x : Int32} {w y : Int64}
theorem tk_0 : tk T a b c d 0 0 = T 0 0 := rfl
theorem tk_1 : tk T a b c d 0 1 = a := rfl
theorem tk_2 : tk T a b c d 0 2 = b := rfl
theorem tk_3 : tk T a b c d 0 3 = c := rfl
theorem tk_4 : tk T a b c d 0 4 = d := rfl
theorem tk_r : tk T a b c d 1 = T 1 := rfl
theorem tk_s1 : st2 (tk T a b c d) 0 (upd (tk T a b c d 0) 1 x) = tk T x b c d := by
  unfold tk
  rw [st2_eq, st2_st2]
  congr 1
  funext i
  by_cases h : i = 1
  · subst h; rw [upd_eq]; rfl
  · rw [upd_ne _ _ h]; simp only [if_neg h]
theorem tk_s2 : st2 (tk T a b c d) 0 (upd (tk T a b c d 0) 2 x) = tk T a x c d := by
  unfold tk
  rw [st2_eq, st2_st2]
  congr 1
  funext i
  by_cases h : i = 2
  · subst h; rw [upd_eq]; rfl
  · rw [upd_ne _ _ h]; simp only [if_neg h]
theorem tk_s3 : st2 (tk T a b c d) 0 (upd (tk T a b c d 0) 3 x) = tk T a b x d := by
  unfold tk
  rw [st2_eq, st2_st2]
  congr 1
  funext i
  by_cases h : i = 3
  · subst h; rw [upd_eq]; rfl
  · rw [upd_ne _ _ h]; simp only [if_neg h]
theorem tk_s4 : st2 (tk T a b c d) 0 (upd (tk T a b c d 0) 4 x) = tk T a b c x := by
  unfold tk
  rw [st2_eq, st2_st2]
  congr 1
  funext i
  by_cases h : i = 4
  · subst h; rw [upd_eq]; rfl
  · rw [upd_ne _ _ h]; simp only [if_neg h]
theorem tk_self : tk T (T 0 1) (T 0 2) (T 0 3) (T 0 4) = T := by
  funext k i
  unfold tk st2
  by_cases h : k = 0
  · subst h
    rw [if_pos rfl]
    by_cases h1 : i = 1
    · subst h1; rfl
    · by_cases h2 : i = 2
      · subst h2; rfl
      · by_cases h3 : i = 3
        · subst h3; rfl
        · by_cases h4 : i = 4
          · subst h4; rfl
          · simp only [if_neg h1, if_neg h2, if_neg h3, if_neg h4]
  · rw [if_neg h]
theorem gk_2 : gk G a b c d e 0 2 = G 0 2 := rfl
theorem gk_3 : gk G a b c d e 0 3 = a := rfl
theorem gk_4 : gk G a b c d e 0 4 = b := rfl
theorem gk_5 : gk G a b c d e 0 5 = c := rfl
theorem gk_6 : gk G a b c d e 0 6 = d := rfl
theorem gk_7 : gk G a b c d e 0 7 = e := rfl
theorem gk_r5 : gk G a b c d e 5 = G 5 := rfl
theorem gk_r1 : gk G a b c d e 1 = G 1 := rfl
theorem gk_s3 : st2 (gk G a b c d e) 0 (upd (gk G a b c d e 0) 3 x) = gk G x b c d e := by
  unfold gk
  rw [st2_eq, st2_st2]
  congr 1
  funext i
  by_cases h : i = 3
  · subst h; rw [upd_eq]; rfl
  · rw [upd_ne _ _ h]; simp only [if_neg h]
theorem gk_s4 : st2 (gk G a b c d e) 0 (upd (gk G a b c d e 0) 4 x) = gk G a x c d e := by
  unfold gk
  rw [st2_eq, st2_st2]
  congr 1
  funext i
  by_cases h : i = 4
  · subst h; rw [upd_eq]; rfl
  · rw [upd_ne _ _ h]; simp only [if_neg h]
theorem gk_s5 : st2 (gk G a b c d e) 0 (upd (gk G a b c d e 0) 5 x) = gk G a b x d e := by
  unfold gk
  rw [st2_eq, st2_st2]
  congr 1
  funext i
  by_cases h : i = 5
  · subst h; rw [upd_eq]; rfl
  · rw [upd_ne _ _ h]; simp only [if_neg h]
theorem gk_s6 : st2 (gk G a b c d e) 0 (upd (gk G a b c d e 0) 6 x) = gk G a b c x e := by
  unfold gk
  rw [st2_eq, st2_st2]
  congr 1
  funext i
  by_cases h : i = 6
  · subst h; rw [upd_eq]; rfl
  · rw [upd_ne _ _ h]; simp only [if_neg h]
theorem gk_s7 : st2 (gk G a b c d e) 0 (upd (gk G a b c d e 0) 7 x) = gk G a b c d x := by
  unfold gk
  rw [st2_eq, st2_st2]
  congr 1
  funext i
  by_cases h : i = 7
  · subst h; rw [upd_eq]; rfl
  · rw [upd_ne _ _ h]; simp only [if_neg h]
theorem gk_self : gk G (G 0 3) (G 0 4) (G 0 5) (G 0 6) (G 0 7) = G := by
  funext k i
  unfold gk st2
  by_cases h : k = 0
  · subst h
    rw [if_pos rfl]
    by_cases h1 : i = 3
    · subst h1; rfl
    · by_cases h2 : i = 4
      · subst h2; rfl
      · by_cases h3 : i = 5
        · subst h3; rfl
        · by_cases h4 : i = 6
          · subst h4; rfl
          · by_cases h5 : i = 7
            · subst h5; rfl
            · simp only [if_neg h1, if_neg h2, if_neg h3, if_neg h4, if_neg h5]
  · rw [if_neg h]
theorem gk_mG {S : Rw} : gk (mG G S) a b c d e = mG (gk G a b c d e) S := by
  show st2 (st2 G 1 (encG S)) 0 (fun i => if i = 3 then a else if i = 4 then b else if i = 5 then c else if i = 6 then d else if i = 7 then e else G 0 i) = _
  exact st2_comm _ (by decide) _ _
theorem jk_0 : jk J w 0 0 = w := rfl
theorem jk_s : st2 (jk J w) 0 (vp_updL (jk J w 0) 0 y) = jk J y := by
  unfold jk
  rw [st2_eq, st2_st2]
  congr 1
  funext i
  unfold vp_updL
  split <;> rfl
theorem jk_self : jk J (J 0 0) = J := by
  funext k i
  unfold jk st2 vp_updL
  by_cases h : k = 0
  · subst h
    rw [if_pos rfl]
    by_cases h1 : i = 0
    · subst h1; rfl
    · rw [if_neg h1]
  · rw [if_neg h]
theorem TB.mG (h : TB B n T G) (S : Rw) : TB B n T (mG G S) := h
-- ===== the sorts of bytes =====
def cl (b : Nat) : Nat := if 97 ≤ b ∧ b ≤ 122 then 1 else if 48 ≤ b ∧ b ≤ 57 then 2 else if b = 59 then 3 else 4
theorem c_sort : ∀ b, b < 256 → fX3_sortOf (nI b) = some (nI (cl b)) := by decide +kernel
theorem m_let : ∀ b, b < 256 → fX6_isLetter (nI b) = some (if cl b = 1 then 1 else 0) := by decide +kernel
theorem m_dig : ∀ b, b < 256 → fX6_isDigit (nI b) = some (if cl b = 2 then 1 else 0) := by decide +kernel
theorem cl_4 (b : Nat) : 1 ≤ cl b ∧ cl b ≤ 4 := by unfold cl; (repeat' split) <;> omega
theorem cl_1 {b : Nat} : cl b = 1 ↔ 97 ≤ b ∧ b ≤ 122 := by unfold cl; (repeat' split) <;> omega
theorem cl_2 {b : Nat} : cl b = 2 ↔ 48 ≤ b ∧ b ≤ 57 := by unfold cl; (repeat' split) <;> omega
theorem cl_3 {b : Nat} : cl b = 3 ↔ b = 59 := by unfold cl; (repeat' split) <;> omega
def bq (B : Nat → Nat) (n k : Nat) : Int32 := if k < n then nI (B k) else -1
theorem m_byte (h : TB B n T G) {k : Nat} (hk : k < 1000) : fX6_byteAt (nI k) (gk G a b c d e) J = some (bq B n k) := by
  unfold fX6_byteAt fX6_byteAt_c18 bq
  rw [gk_2, h.2.2.1, gk_r5]
  have hn := h.1
  by_cases hc : k < n
  · rw [if_neg (i_nle (by omega) (by omega) hc), g_inb (by omega) (by omega), n_cl (by omega), h.2.2.2.2.1 k (by omega), if_pos hc]
  · rw [if_pos (i_le (by omega) (by omega) (by omega)), if_neg hc]
theorem m_let_bt (h : TB B n T G) (k : Nat) : fX6_isLetter (bq B n k) = some (if k < n ∧ cl (B k) = 1 then 1 else 0) := by
  unfold bq
  by_cases hc : k < n
  · rw [if_pos hc, m_let _ (h.2.2.2.2.2 k)]
    simp only [hc, true_and]
  · rw [if_neg hc, if_neg (fun q => hc q.1)]; decide
theorem m_dig_bt (h : TB B n T G) (k : Nat) : fX6_isDigit (bq B n k) = some (if k < n ∧ cl (B k) = 2 then 1 else 0) := by
  unfold bq
  by_cases hc : k < n
  · rw [if_pos hc, m_dig _ (h.2.2.2.2.2 k)]
    simp only [hc, true_and]
  · rw [if_neg hc, if_neg (fun q => hc q.1)]; decide
-- ===== runs of bytes =====
def ru (P : Nat → Bool) : Nat → Nat → Nat
  | 0, p => p
  | f + 1, p => if P p = true then ru P f (p + 1) else p
theorem ru_le (P : Nat → Bool) : ∀ f p, p ≤ ru P f p ∧ ru P f p ≤ p + f := by
  intro f
  induction f with
  | zero => intro p; exact ⟨Nat.le_refl _, Nat.le_refl _⟩
  | succ f ih =>
    intro p
    rw [ru]
    split
    · have := ih (p + 1); omega
    · omega
/-- the value of digits -/
def vl (B : Nat → Nat) (st : Nat) : Nat → Nat → Nat → Nat
  | 0, _, v => v
  | f + 1, p, v => if cl (B p) = st then vl B st f (p + 1) (if st = 2 then min (10 * v + B p - 48) 10000 else v) else v
theorem vl_le (st : Nat) : ∀ f p v, v ≤ 10000 → vl B st f p v ≤ 10000 := by
  intro f
  induction f with
  | zero => intro p v h; exact h
  | succ f ih =>
    intro p v h
    rw [vl]
    split
    · refine ih _ _ ?_
      split
      · exact Nat.min_le_right _ _
      · exact h
    · exact h
/-- the number of letters -/
def wd (B : Nat → Nat) (s : Nat) : Nat → Nat → Int64 → Int64
  | 0, _, w => w
  | f + 1, p, w => if cl (B p) = 1 then wd B s f (p + 1) (if p - s < 12 then 27 * w + (nI (B p)).toInt64 - 96 else -1) else w
theorem c_skip (h : TB B n T G) : ∀ f p fuel, p + f = n → f < fuel → fX3_goToNextToken_c8 fuel (tk T a (nI p) c d) = fX3_goToNextToken_c46 (tk T a (nI (ru (fun j => B j == 32) f p)) c d) := by
  have hn := h.1
  intro f
  induction f with
  | zero =>
    intro p fuel hp hf
    obtain ⟨q, rfl⟩ : ∃ q, fuel = q + 1 := ⟨fuel - 1, by omega⟩
    rw [fX3_goToNextToken_c8, tk_0, tk_2, h.2.1, if_pos (i_le (by omega) (by omega) (by omega)), ru]
  | succ f ih =>
    intro p fuel hp hf
    obtain ⟨q, rfl⟩ : ∃ q, fuel = q + 1 := ⟨fuel - 1, by omega⟩
    rw [fX3_goToNextToken_c8, tk_0, tk_2, tk_r, h.2.1, if_neg (i_nle (by omega) (by omega) (by omega)), g_inb (by omega) (by omega), n_cl (by omega), h.2.2.2.1 p (by omega), ru]
    have hb := h.2.2.2.2.2 p
    by_cases hc : B p = 32
    · rw [if_pos (show nI (B p) = (32 : Int32) by rw [hc]; rfl), letb_eq, tk_s2, show nI p + (1 : Int32) = nI (p + 1) from n_add p 1, ih (p + 1) q (by omega) (by omega), if_pos (show (B p == 32) = true by rw [beq_iff_eq]; exact hc)]
    · rw [if_neg (show ¬ nI (B p) = (32 : Int32) from i_ne (b := 32) (by omega) (by decide) hc), if_neg (by rw [beq_iff_eq]; exact hc)]
theorem m_skip (h : TB B n T G) : ∀ f p fuel, p + f = n → f < fuel → fX6_advance_c8 fuel (gk G a (nI p) c d e) J = fX6_advance_c34 (gk G a (nI (ru (fun j => B j == 32) f p)) c d e) J := by
  have hn := h.1
  intro f
  induction f with
  | zero =>
    intro p fuel hp hf
    obtain ⟨q, rfl⟩ : ∃ q, fuel = q + 1 := ⟨fuel - 1, by omega⟩
    rw [fX6_advance_c8, gk_4, m_byte h (by omega), bind_eq, ru]
    unfold bq
    rw [if_neg (show ¬ p < n by omega), if_neg (by decide)]
  | succ f ih =>
    intro p fuel hp hf
    obtain ⟨q, rfl⟩ : ∃ q, fuel = q + 1 := ⟨fuel - 1, by omega⟩
    have hb := h.2.2.2.2.2 p
    rw [fX6_advance_c8, gk_4, m_byte h (by omega), bind_eq, ru]
    unfold bq
    rw [if_pos (show p < n by omega)]
    by_cases hc : B p = 32
    · rw [if_pos (show nI (B p) = (32 : Int32) by rw [hc]; rfl), letb_eq, gk_s4, show nI p + (1 : Int32) = nI (p + 1) from n_add p 1, ih (p + 1) q (by omega) (by omega), if_pos (show (B p == 32) = true by rw [beq_iff_eq]; exact hc)]
    · rw [if_neg (show ¬ nI (B p) = (32 : Int32) from i_ne (b := 32) (by omega) (by decide) hc), if_neg (by rw [beq_iff_eq]; exact hc)]
theorem dig_val {v b : Nat} (hv : v ≤ 10000) (hb : 48 ≤ b ∧ b ≤ 57) : ((10 : Int32) * nI v) + nI b - (48 : Int32) = nI (10 * v + b - 48) := by
  rw [show (10 : Int32) * nI v = nI (10 * v) from n_mul 10 v, n_add]
  exact n_sub (b := 48) (by omega)
theorem c_run (h : TB B n T G) {st : Nat} (hst : st ≤ 4) : ∀ f p v fuel, p + f = n → f < fuel → v ≤ 10000 → fX3_goToNextToken_c90 fuel (tk T (nI st) b (nI p) (nI v)) = fX3_goToNextToken_c171 (tk T (nI st) b (nI (ru (fun j => cl (B j) == st) f p)) (nI (vl B st f p v))) := by
  have hn := h.1
  intro f
  induction f with
  | zero =>
    intro p v fuel hp hf hv
    obtain ⟨q, rfl⟩ : ∃ q, fuel = q + 1 := ⟨fuel - 1, by omega⟩
    rw [fX3_goToNextToken_c90, tk_0, tk_3, h.2.1, if_pos (i_le (by omega) (by omega) (by omega)), ru, vl]
  | succ f ih =>
    intro p v fuel hp hf hv
    obtain ⟨q, rfl⟩ : ∃ q, fuel = q + 1 := ⟨fuel - 1, by omega⟩
    have hb := h.2.2.2.2.2 p
    have h4 := cl_4 (B p)
    rw [fX3_goToNextToken_c90, tk_0, tk_3, tk_1, tk_4, tk_r, h.2.1, if_neg (i_nle (by omega) (by omega) (by omega)), g_inb (by omega) (by omega), n_cl (by omega), h.2.2.2.1 p (by omega), c_sort _ hb, bind_eq, ru, vl]
    by_cases hc : cl (B p) = st
    · rw [if_pos (show nI (cl (B p)) = nI st by rw [hc]), if_pos (show (cl (B p) == st) = true by rw [beq_iff_eq]; exact hc), if_pos hc]
      by_cases h2 : st = 2
      · subst h2
        have hd := cl_2.mp hc
        rw [if_pos (show nI 2 = (2 : Int32) from rfl), g_inb (by omega) (by omega), dig_val hv hd, if_pos rfl]
        have em : (if nI (10 * v + B p - 48) < (10000 : Int32) then nI (10 * v + B p - 48) else (10000 : Int32)) = nI (min (10 * v + B p - 48) 10000) := by
          by_cases hm : 10 * v + B p - 48 < 10000
          · rw [if_pos (show nI (10 * v + B p - 48) < (10000 : Int32) from i_lt (b := 10000) (by omega) (by decide) hm), Nat.min_eq_left (by omega)]
          · rw [if_neg (show ¬ nI (10 * v + B p - 48) < (10000 : Int32) from i_nlt (b := 10000) (by omega) (by decide) (by omega)), Nat.min_eq_right (by omega)]
            rfl
        rw [em, letb_eq, tk_s4]
        unfold fX3_goToNextToken_c158
        rw [tk_3, tk_s3, letb_eq, show nI p + (1 : Int32) = nI (p + 1) from n_add p 1]
        exact ih (p + 1) _ q (by omega) (by omega) (Nat.min_le_right _ _)
      · rw [if_neg (show ¬ nI st = (2 : Int32) from i_ne (b := 2) (by omega) (by decide) h2), if_neg h2]
        unfold fX3_goToNextToken_c158
        rw [tk_3, tk_s3, letb_eq, show nI p + (1 : Int32) = nI (p + 1) from n_add p 1]
        exact ih (p + 1) _ q (by omega) (by omega) hv
    · rw [if_neg (i_ne (by omega) (by omega) hc), if_neg (show ¬ (cl (B p) == st) = true by rw [beq_iff_eq]; exact hc), if_neg hc]
theorem m_dg (h : TB B n T G) : ∀ f p v fuel, p + f = n → f < fuel → v ≤ 10000 → fX6_advance_c207 fuel (gk G (2 : Int32) b (nI p) (nI v) e) J = some (gk G (2 : Int32) b (nI (ru (fun j => cl (B j) == 2) f p)) (nI (vl B 2 f p v)) e, J) := by
  have hn := h.1
  intro f
  induction f with
  | zero =>
    intro p v fuel hp hf hv
    obtain ⟨q, rfl⟩ : ∃ q, fuel = q + 1 := ⟨fuel - 1, by omega⟩
    rw [fX6_advance_c207, gk_3, if_pos rfl, gk_5, m_byte h (by omega), bind_eq, m_dig_bt h, if_neg (show ¬ (p < n ∧ cl (B p) = 2) by omega), bind_eq, ifp00, ru, vl]
    rfl
  | succ f ih =>
    intro p v fuel hp hf hv
    obtain ⟨q, rfl⟩ : ∃ q, fuel = q + 1 := ⟨fuel - 1, by omega⟩
    rw [fX6_advance_c207, gk_3, if_pos rfl, gk_5, m_byte h (by omega), bind_eq, m_dig_bt h, ru, vl]
    by_cases hc : cl (B p) = 2
    · have hd := cl_2.mp hc
      rw [if_pos (show p < n ∧ cl (B p) = 2 from ⟨by omega, hc⟩), bind_eq, ifn10, if_pos (show (cl (B p) == 2) = true by rw [beq_iff_eq]; exact hc), if_pos hc, if_pos rfl, gk_6, bind_eq]
      unfold bq
      rw [if_pos (show p < n by omega), dig_val hv hd]
      unfold fX6_advance_c265
      have em : (if nI v ≤ (999 : Int32) then nI (10 * v + B p - 48) else (10000 : Int32)) = nI (min (10 * v + B p - 48) 10000) := by
        by_cases hm : v ≤ 999
        · rw [if_pos (show nI v ≤ (999 : Int32) from i_le (b := 999) (by omega) (by decide) hm), Nat.min_eq_left (by omega)]
        · rw [if_neg (show ¬ nI v ≤ (999 : Int32) from i_nle (b := 999) (by omega) (by decide) (by omega)), Nat.min_eq_right (by omega)]
          rfl
      have go : ∀ x : Nat, x ≤ 10000 → (letb (st2 (gk G (2 : Int32) b (nI p) (nI v) e) 0 (upd (gk G (2 : Int32) b (nI p) (nI v) e 0) 6 (nI x))) fun G_44 => letb (st2 G_44 0 (upd (G_44 0) 5 (G_44 0 5 + 1))) fun G_45 => fX6_advance_c207 q G_45 J) = some (gk G (2 : Int32) b (nI (ru (fun j => cl (B j) == 2) f (p + 1))) (nI (vl B 2 f (p + 1) x)) e, J) := by
        intro x hx
        rw [gk_s6, letb_eq, gk_5, gk_s5, letb_eq, show nI p + (1 : Int32) = nI (p + 1) from n_add p 1]
        exact ih (p + 1) x q (by omega) (by omega) hx
      rw [← go _ (Nat.min_le_right _ _), ← em]
      split <;> rfl
    · rw [if_neg (show ¬ (p < n ∧ cl (B p) = 2) from fun q => hc q.2), bind_eq, ifp00, if_neg (show ¬ (cl (B p) == 2) = true by rw [beq_iff_eq]; exact hc), if_neg hc]
      rfl
theorem m_lt (h : TB B n T G) {s : Nat} : ∀ f p fuel {w : Int64}, s ≤ p → p + f = n → f < fuel → fX6_advance_c126 fuel (gk G (1 : Int32) (nI s) (nI p) d e) (jk J w) = some (gk G (1 : Int32) (nI s) (nI (ru (fun j => cl (B j) == 1) f p)) d e, jk J (wd B s f p w)) := by
  have hn := h.1
  have hend : ∀ p w, fX6_advance_c207 FU (gk G (1 : Int32) (nI s) (nI p) d e) (jk J w) = some (gk G (1 : Int32) (nI s) (nI p) d e, jk J w) := by
    intro p w
    rw [show FU = 3999 + 1 from rfl, fX6_advance_c207, gk_3, if_neg (by decide)]
    rfl
  intro f
  induction f with
  | zero =>
    intro p fuel w hs hp hf
    obtain ⟨q, rfl⟩ : ∃ q, fuel = q + 1 := ⟨fuel - 1, by omega⟩
    rw [fX6_advance_c126, gk_3, if_pos rfl, gk_5, m_byte h (by omega), bind_eq, m_let_bt h, if_neg (show ¬ (p < n ∧ cl (B p) = 1) by omega), bind_eq, ifp00, ru, wd, hend]
  | succ f ih =>
    intro p fuel w hs hp hf
    obtain ⟨q, rfl⟩ : ∃ q, fuel = q + 1 := ⟨fuel - 1, by omega⟩
    rw [fX6_advance_c126, gk_3, if_pos rfl, gk_5, m_byte h (by omega), bind_eq, m_let_bt h, ru, wd]
    by_cases hc : cl (B p) = 1
    · rw [if_pos (show p < n ∧ cl (B p) = 1 from ⟨by omega, hc⟩), bind_eq, ifn10, if_pos (show (cl (B p) == 1) = true by rw [beq_iff_eq]; exact hc), if_pos hc, gk_4, n_sub hs, bind_eq, jk_0]
      unfold bq
      rw [if_pos (show p < n by omega)]
      unfold fX6_advance_c191
      by_cases h12 : p - s < 12
      · rw [if_neg (show ¬ (12 : Int32) ≤ nI (p - s) from i_nle (a := 12) (by decide) (by omega) h12), if_pos h12, jk_s, letb_eq, gk_5, gk_s5, letb_eq, show nI p + (1 : Int32) = nI (p + 1) from n_add p 1]
        exact ih (p + 1) q (by omega) (by omega) (by omega)
      · rw [if_pos (show (12 : Int32) ≤ nI (p - s) from i_le (a := 12) (by decide) (by omega) (by omega)), if_neg h12, jk_s, letb_eq, gk_5, gk_s5, letb_eq, show nI p + (1 : Int32) = nI (p + 1) from n_add p 1]
        exact ih (p + 1) q (by omega) (by omega) (by omega)
    · rw [if_neg (show ¬ (p < n ∧ cl (B p) = 1) from fun q => hc q.2), bind_eq, ifp00, if_neg (show ¬ (cl (B p) == 1) = true by rw [beq_iff_eq]; exact hc), if_neg hc, hend]
end TA
