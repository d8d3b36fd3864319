-- ===== the model: its row =====
def mG (G : M2) (R : Rw) : M2 := st2 G 1 (encG R)
section MM
variable {D : Nat} {R : Rw} {G : M2} {J : J2}
theorem mG_1 : mG G R 1 = encG R := st2_eq _ _ _
theorem mG_r {j : Nat} (h : j < 75) : mG G R 1 j = nI (R j) := by rw [mG_1, encG_at h]
theorem mG_a {a : Nat} (h : a ≠ 1) : mG G R a = G a := st2_ne _ _ h
theorem mG_s {j v : Nat} (h : j < 75) : st2 (mG G R) 1 (upd (mG G R 1) j (nI v)) = mG G (wr R j v) := by
  rw [mG_1, encG_st h]
  exact st2_st2 _ _ _ _
theorem mG_st {a : Nat} (h : a ≠ 1) (f : M1) : st2 (mG G R) a f = mG (st2 G a f) R := st2_comm _ (Ne.symm h) _ _
theorem mG_put (R' : Rw) : st2 (mG G R) 1 (encG R') = mG G R' := st2_st2 _ _ _ _
theorem m_its0 {k : Nat} (hk : k < 8) : fX6_its (nI k) (nI 0) (mG G R) J = some (nI (R (35 + 5 * k))) := by
  unfold fX6_its
  simp (disch := omega) only [n_35, n_5, n_mul, n_add, g_inb, n_cl, mG_r]
  try rfl
theorem m_its1 {k : Nat} (hk : k < 8) : fX6_its (nI k) (nI 1) (mG G R) J = some (nI (R (36 + 5 * k))) := by
  unfold fX6_its
  simp (disch := omega) only [n_35, n_5, n_mul, n_add, g_inb, n_cl, mG_r]
  rw [show 35 + 5 * k + 1 = 36 + 5 * k by omega]
theorem m_its2 {k : Nat} (hk : k < 8) : fX6_its (nI k) (nI 2) (mG G R) J = some (nI (R (37 + 5 * k))) := by
  unfold fX6_its
  simp (disch := omega) only [n_35, n_5, n_mul, n_add, g_inb, n_cl, mG_r]
  rw [show 35 + 5 * k + 2 = 37 + 5 * k by omega]
theorem m_its3 {k : Nat} (hk : k < 8) : fX6_its (nI k) (nI 3) (mG G R) J = some (nI (R (38 + 5 * k))) := by
  unfold fX6_its
  simp (disch := omega) only [n_35, n_5, n_mul, n_add, g_inb, n_cl, mG_r]
  rw [show 35 + 5 * k + 3 = 38 + 5 * k by omega]
theorem m_its4 {k : Nat} (hk : k < 8) : fX6_its (nI k) (nI 4) (mG G R) J = some (nI (R (39 + 5 * k))) := by
  unfold fX6_its
  simp (disch := omega) only [n_35, n_5, n_mul, n_add, g_inb, n_cl, mG_r]
  rw [show 35 + 5 * k + 4 = 39 + 5 * k by omega]
theorem m_puts0 {k v : Nat} (hk : k < 8) : fX6_puts (nI k) (nI 0) (nI v) (mG G R) J = some (mG G (wr R (35 + 5 * k) v)) := by
  unfold fX6_puts
  simp (disch := omega) only [n_35, n_5, n_mul, n_add, g_inb, n_cl, mG_s, letb_eq]
  try rfl
theorem m_puts1 {k v : Nat} (hk : k < 8) : fX6_puts (nI k) (nI 1) (nI v) (mG G R) J = some (mG G (wr R (36 + 5 * k) v)) := by
  unfold fX6_puts
  simp (disch := omega) only [n_35, n_5, n_mul, n_add, g_inb, n_cl, mG_s, letb_eq]
  rw [show 35 + 5 * k + 1 = 36 + 5 * k by omega]
theorem m_puts2 {k v : Nat} (hk : k < 8) : fX6_puts (nI k) (nI 2) (nI v) (mG G R) J = some (mG G (wr R (37 + 5 * k) v)) := by
  unfold fX6_puts
  simp (disch := omega) only [n_35, n_5, n_mul, n_add, g_inb, n_cl, mG_s, letb_eq]
  rw [show 35 + 5 * k + 2 = 37 + 5 * k by omega]
theorem m_puts3 {k v : Nat} (hk : k < 8) : fX6_puts (nI k) (nI 3) (nI v) (mG G R) J = some (mG G (wr R (38 + 5 * k) v)) := by
  unfold fX6_puts
  simp (disch := omega) only [n_35, n_5, n_mul, n_add, g_inb, n_cl, mG_s, letb_eq]
  rw [show 35 + 5 * k + 3 = 38 + 5 * k by omega]
theorem m_puts4 {k v : Nat} (hk : k < 8) : fX6_puts (nI k) (nI 4) (nI v) (mG G R) J = some (mG G (wr R (39 + 5 * k) v)) := by
  unfold fX6_puts
  simp (disch := omega) only [n_35, n_5, n_mul, n_add, g_inb, n_cl, mG_s, letb_eq]
  rw [show 35 + 5 * k + 4 = 39 + 5 * k by omega]
theorem m_sec (hI : Inv D R) {n : Nat} (hn : n < 2147483648) : fX6_seconds (nI n) (mG G R) J = some (nI (secS R n)) := by
  have h := Nat.mod_lt n (by decide : 0 < 28)
  have h1 := hI.sea h
  have h2 := hI.rock
  unfold fX6_seconds fX6_seconds_c31 secS
  simp (disch := omega) only [n_28, n_7, n_1, n_rem, n_add, g_inb, n_cl, mG_r, letb_eq]
  by_cases hc : R 1 ≤ R (7 + n % 28)
  · rw [n_sub hc, if_pos (i_pos (by omega)), if_pos hc, n_add]
  · rw [if_neg (by
      rw [fa_le, pk_sub_toInt (by omega) (by omega)]
      show ¬ (0 : Int) ≤ _
      omega), if_neg hc]
    rfl
theorem m_held {v : Nat} (hv : v < 2147483648) : fX6_held (nI v) (nI 0) (nI 9999) = some (nI (cap v)) := by
  unfold fX6_held fX6_held_c19 cap
  rw [if_pos (i_le (by decide) hv (Nat.zero_le _))]
  by_cases h : v < 9999
  · rw [if_pos (i_le hv (by decide) (by omega)), if_pos h]
  · by_cases h2 : v = 9999
    · subst h2; rfl
    · rw [if_neg (i_nle hv (by decide) (by omega)), if_neg h]
theorem m_bro (hI : Inv D R) {o : Nat} (ho : o < 8) : fX6_isBrother (nI o) (mG G R) J = some (if R (35 + 5 * o) = 1 ∨ R (35 + 5 * o) = 4 then 1 else 0) := by
  have hk := hI.kind ho
  unfold fX6_isBrother fX6_isBrother_c20 fX6_isBrother_c25
  rw [show (0 : Int32) = nI 0 from rfl, m_its0 ho, bind_eq]
  rcases (show R (35 + 5 * o) = 0 ∨ R (35 + 5 * o) = 1 ∨ R (35 + 5 * o) = 2 ∨ R (35 + 5 * o) = 3 ∨ R (35 + 5 * o) = 4 ∨ R (35 + 5 * o) = 5 by omega) with h | h | h | h | h | h <;> rw [h] <;> rfl
theorem g_6 {β : Type} (k : Option β) : grd (inb (6 : Int32) 75) k = k := rfl
theorem t_6 : (6 : Int32).toNatClampNeg = 6 := rfl
theorem m_bes_lp (hI : Inv D R) {k : Nat} (hk : k < 8) : ∀ m i fuel (b : Bool), i + m = R 6 → m < fuel → fX6_besideBrother_c4 fuel (nI k) (if b = true then 1 else 0) (nI i) (mG G R) J = some (if (b || anyM (broS R k) i m) = true then 1 else 0) := by
  have h6 := hI.many
  intro m
  induction m with
  | zero =>
    intro i fuel b hi hf
    cases fuel with
    | zero => omega
    | succ n =>
      rw [fX6_besideBrother_c4, g_6, t_6, mG_r (by decide), if_pos (i_le (by omega) (by omega) (by omega))]
      cases b <;> rfl
  | succ m ih =>
    intro i fuel b hi hf
    cases fuel with
    | zero => omega
    | succ n =>
      have ho := hI.on (k := i) (by omega)
      have next : ∀ c : Bool, fX6_besideBrother_c47 (fX6_besideBrother_c4 n) (nI k) (nI i) (if c = true then 1 else 0) (mG G R) J = some (if (c || anyM (broS R k) (i + 1) m) = true then 1 else 0) := by
        intro c
        unfold fX6_besideBrother_c47
        rw [letb_eq, show nI i + (1 : Int32) = nI (i + 1) from n_add i 1, ih (i + 1) n c (by omega) (by omega)]
      have n1 : fX6_besideBrother_c42 (fX6_besideBrother_c4 n) (nI k) (nI i) (mG G R) J = some (if (true || anyM (broS R k) (i + 1) m) = true then 1 else 0) := next true
      have n0 : fX6_besideBrother_c46 (fX6_besideBrother_c4 n) (nI k) (nI i) (mG G R) J = some (if (false || anyM (broS R k) (i + 1) m) = true then 1 else 0) := next false
      rw [fX6_besideBrother_c4, g_6, t_6, mG_r (by decide), if_neg (i_nle (by omega) (by omega) (by omega)), n1, n0]
      show _ = some (if (b || (broS R k i || anyM (broS R k) (i + 1) m)) = true then 1 else 0)
      cases b with
      | true => rfl
      | false =>
        rw [if_pos (show (if false = true then (1 : Int32) else 0) = 0 from rfl)]
        by_cases he : i = k
        · have hb : broS R k i = false := by unfold broS; rw [decide_eq_false (by simpa using he)]; rfl
          rw [if_pos (by rw [he]), hb]
          rfl
        · rw [if_neg (i_ne (by omega) (by omega) he), show fX6_its (nI i) (1 : Int32) (mG G R) J = _ from m_its1 (by omega), bind_eq]
          by_cases hon : R (36 + 5 * i) = 1
          · rw [if_pos (by rw [hon]; rfl), m_bro hI (by omega), bind_eq]
            by_cases hb : R (35 + 5 * i) = 1 ∨ R (35 + 5 * i) = 4
            · have hb2 : broS R k i = true := by
                unfold broS
                rw [decide_eq_true he, decide_eq_true hon, Bool.true_and, Bool.true_and, Bool.or_eq_true, decide_eq_true_eq, decide_eq_true_eq]
                exact hb
              rw [if_pos hb, if_neg (by decide), hb2]
              rfl
            · have hb2 : broS R k i = false := by
                unfold broS
                rw [decide_eq_false (by omega : ¬ R (35 + 5 * i) = 1), decide_eq_false (by omega : ¬ R (35 + 5 * i) = 4)]
                simp
              rw [if_neg hb, if_pos rfl, hb2]
              rfl
          · have hb2 : broS R k i = false := by
              unfold broS
              rw [decide_eq_false hon]
              simp
            rw [if_neg (i_ne1 (by omega) hon), hb2]
            rfl
theorem m_bes (hI : Inv D R) {k : Nat} (hk : k < 8) : fX6_besideBrother (nI k) (mG G R) J = some (if besS R k = true then 1 else 0) := by
  have h6 := hI.many
  exact m_bes_lp hI hk (R 6) 0 FU false (by omega) (by rw [FU_eq]; omega)
theorem m_uses (hI : Inv D R) {k : Nat} (hk : k < 8) : fX6_uses (nI k) (mG G R) J = some (nI (usS R k)) := by
  have hkd := hI.kind hk
  unfold fX6_uses fX6_uses_c49 usS
  rw [show fX6_its (nI k) (0 : Int32) (mG G R) J = _ from m_its0 hk, bind_eq, m_bes hI hk, bind_eq]
  rcases (show R (35 + 5 * k) = 0 ∨ R (35 + 5 * k) = 1 ∨ R (35 + 5 * k) = 2 ∨ R (35 + 5 * k) = 3 ∨ R (35 + 5 * k) = 4 ∨ R (35 + 5 * k) = 5 by omega) with h | h | h | h | h | h <;> rw [h] <;> first | rfl | (by_cases hb : besS R k = true <;> simp only [hb] <;> rfl)
theorem m_usAll_lp (hI : Inv D R) : ∀ m i acc fuel, i + m = R 6 → m < fuel → fX6_usesAll_c4 fuel (nI acc) (nI i) (mG G R) J = some (nI (acc + sumM (fun k => if R (36 + 5 * k) = 1 then usS R k else 0) i m)) := by
  have h6 := hI.many
  intro m
  induction m with
  | zero =>
    intro i acc fuel hi hf
    cases fuel with
    | zero => omega
    | succ n => rw [fX6_usesAll_c4, g_6, t_6, mG_r (by decide), if_pos (i_le (by omega) (by omega) (by omega))]; rfl
  | succ m ih =>
    intro i acc fuel hi hf
    cases fuel with
    | zero => omega
    | succ n =>
      have ho := hI.on (k := i) (by omega)
      have next : ∀ v, fX6_usesAll_c35 (fX6_usesAll_c4 n) (nI i) (nI v) (nI acc) (mG G R) J = some (nI (acc + (v + sumM (fun k => if R (36 + 5 * k) = 1 then usS R k else 0) (i + 1) m))) := by
        intro v
        unfold fX6_usesAll_c35
        rw [letb_eq, letb_eq, n_add, show nI i + (1 : Int32) = nI (i + 1) from n_add i 1, ih (i + 1) (acc + v) n (by omega) (by omega), Nat.add_assoc]
      rw [fX6_usesAll_c4, g_6, t_6, mG_r (by decide), if_neg (i_nle (by omega) (by omega) (by omega)), show fX6_its (nI i) (1 : Int32) (mG G R) J = _ from m_its1 (by omega), bind_eq]
      show _ = some (nI (acc + ((if R (36 + 5 * i) = 1 then usS R i else 0) + sumM (fun k => if R (36 + 5 * k) = 1 then usS R k else 0) (i + 1) m)))
      by_cases hc : R (36 + 5 * i) = 1
      · rw [if_pos (by rw [hc]; rfl), if_pos hc, m_uses hI (by omega), bind_eq, next]
      · rw [if_neg (i_ne1 (by omega) hc), if_neg hc]
        exact next 0
theorem m_usAll (hI : Inv D R) : fX6_usesAll (mG G R) J = some (nI (usAll R)) := by
  have h6 := hI.many
  have h := m_usAll_lp (G := G) (J := J) hI (R 6) 0 0 FU (by omega) (by rw [FU_eq]; omega)
  rw [Nat.zero_add] at h
  exact h
theorem m_on_lp (hI : Inv D R) : ∀ m i acc fuel, i + m = R 6 → m < fuel → acc < 2 ^ i → fX6_onSet_c4 fuel (nI acc) (nI i) (mG G R) J = some (nI (acc + sumM (fun k => if R (36 + 5 * k) = 1 then 2 ^ k else 0) i m)) := by
  have h6 := hI.many
  intro m
  induction m with
  | zero =>
    intro i acc fuel hi hf ha
    cases fuel with
    | zero => omega
    | succ n => rw [fX6_onSet_c4, g_6, t_6, mG_r (by decide), if_pos (i_le (by omega) (by omega) (by omega))]; rfl
  | succ m ih =>
    intro i acc fuel hi hf ha
    cases fuel with
    | zero => omega
    | succ n =>
      have ho := hI.on (k := i) (by omega)
      have hp : 2 ^ i ≤ 2 ^ 7 := Nat.pow_le_pow_right (by decide) (by omega)
      have hs : 2 ^ (i + 1) = 2 ^ i * 2 := Nat.pow_succ _ _
      rw [fX6_onSet_c4, g_6, t_6, mG_r (by decide), if_neg (i_nle (by omega) (by omega) (by omega)), show fX6_its (nI i) (1 : Int32) (mG G R) J = _ from m_its1 (by omega), bind_eq, letb_eq, letb_eq, show nI i + (1 : Int32) = nI (i + 1) from n_add i 1]
      show _ = some (nI (acc + ((if R (36 + 5 * i) = 1 then 2 ^ i else 0) + sumM (fun k => if R (36 + 5 * k) = 1 then 2 ^ k else 0) (i + 1) m)))
      by_cases hc : R (36 + 5 * i) = 1
      · rw [hc, if_pos rfl, show nI 1 <<< (nI i &&& 31) = nI (2 ^ i) from shl1 i (by omega), fa_or, or_pow i (by omega) acc (by omega) ha, ih (i + 1) (acc + 2 ^ i) n (by omega) (by omega) (by omega), Nat.add_assoc]
      · rw [show R (36 + 5 * i) = 0 by omega, if_neg (by decide), show nI 0 <<< (nI i &&& 31) = nI 0 from shl0 i (by omega), fa_or, Nat.or_zero, ih (i + 1) acc n (by omega) (by omega) (by omega), Nat.zero_add]
theorem m_on (hI : Inv D R) : fX6_onSet (mG G R) J = some (nI (onS R)) := by
  have h6 := hI.many
  have h := m_on_lp (G := G) (J := J) hI (R 6) 0 0 FU (by omega) (by rw [FU_eq]; omega) (by decide)
  rw [Nat.zero_add] at h
  exact h
theorem m_fst_lp (hK : Kp R) {x : Nat} (hx : x ≤ 1) : ∀ m i b fuel, i + m = R 6 → m < fuel → b ≤ i → fX6_first_c4 fuel (nI x) (eB b) (nI i) (mG G R) J = some (eB (fstM R x i m b)) := by
  have h6 := hK.1
  intro m
  induction m with
  | zero =>
    intro i b fuel hi hf ha
    cases fuel with
    | zero => omega
    | succ n => rw [fX6_first_c4, g_6, t_6, mG_r (by decide), if_pos (i_le (by omega) (by omega) (by omega))]; rfl
  | succ m ih =>
    intro i b fuel hi hf ha
    cases fuel with
    | zero => omega
    | succ n =>
      have ho := (hK.2 i (by omega)).1
      have hs := (hK.2 i (by omega)).2
      have go : ∀ b', b' ≤ i + 1 → fX6_first_c49 (fX6_first_c4 n) (nI x) (nI i) (eB b') (mG G R) J = some (eB (fstM R x (i + 1) m b')) := by
        intro b' hb'
        unfold fX6_first_c49
        rw [letb_eq, show nI i + (1 : Int32) = nI (i + 1) from n_add i 1, ih (i + 1) b' n (by omega) (by omega) hb']
      have go1 : fX6_first_c44 (fX6_first_c4 n) (nI x) (nI i) (mG G R) J = some (eB (fstM R x (i + 1) m (i + 1))) := by
        unfold fX6_first_c44
        have h := go (i + 1) (Nat.le_refl _)
        rw [eB_s] at h
        exact h
      have go0 : fX6_first_c48 (fX6_first_c4 n) (nI x) (eB b) (nI i) (mG G R) J = some (eB (fstM R x (i + 1) m b)) := go b (by omega)
      rw [fX6_first_c4, g_6, t_6, mG_r (by decide), if_neg (i_nle (by omega) (by omega) (by omega)), show fX6_its (nI i) (1 : Int32) (mG G R) J = _ from m_its1 (by omega), bind_eq, go0, go1]
      show _ = some (eB (fstM R x (i + 1) m (if R (36 + 5 * i) = x ∧ (b = 0 ∨ R (37 + 5 * i) < R (37 + 5 * (b - 1))) then i + 1 else b)))
      by_cases hc : R (36 + 5 * i) = x
      · rw [if_pos (by rw [hc])]
        by_cases hb : b = 0
        · subst hb
          rw [if_pos eB_neg, if_pos ⟨hc, Or.inl rfl⟩]
        · obtain ⟨q, rfl⟩ : ∃ q, b = q + 1 := ⟨b - 1, by omega⟩
          have hq := (hK.2 q (by omega)).2
          rw [eB_s, if_neg (i_nneg (by omega)), show fX6_its (nI i) (2 : Int32) (mG G R) J = _ from m_its2 (by omega), bind_eq, show fX6_its (nI q) (2 : Int32) (mG G R) J = _ from m_its2 (by omega), bind_eq, Nat.add_sub_cancel]
          by_cases hl : R (37 + 5 * i) < R (37 + 5 * q)
          · rw [if_neg (i_nle (by omega) (by omega) hl), if_pos ⟨hc, Or.inr hl⟩]
          · rw [if_pos (i_le (by omega) (by omega) (by omega)), if_neg (by omega)]
      · rw [if_neg (i_ne (by omega) (by omega) hc), if_neg (by omega)]
theorem m_fst (hK : Kp R) {x : Nat} (hx : x ≤ 1) : fX6_first (nI x) (mG G R) J = some (eB (fstS R x)) := by
  have h6 := hK.1
  exact m_fst_lp hK hx (R 6) 0 0 FU (by omega) (by rw [FU_eq]; omega) (by omega)
theorem m_learnt_lp {a b : Nat} (ha : a < 512) (hb : b < 512) : ∀ k s m w fuel, w + k = 9 → k < fuel → m < 1000 → fX6_learnt_c8 fuel (nI a) (nI b) (nI s) (nI m) (nI w) = some (nI (lrnN a b k s m w)) := by
  intro k
  induction k with
  | zero =>
    intro s m w fuel hw hf hm
    cases fuel with
    | zero => omega
    | succ n => rw [fX6_learnt_c8, if_pos (show (9 : Int32) ≤ nI w from i_le (a := 9) (by decide) (by omega) (by omega))]; rfl
  | succ k ih =>
    intro s m w fuel hw hf hm
    cases fuel with
    | zero => omega
    | succ n =>
      have b1 := bit_lt a w
      have b2 := bit_lt b w
      rw [fX6_learnt_c8, if_neg (show ¬ (9 : Int32) ≤ nI w from i_nle (a := 9) (by decide) (by omega) (by omega))]
      show _ = some (nI (if m = 0 then s else if bit a w = 1 ∧ bit b w = 0 then lrnN a b k (s ||| 2 ^ w) (m - 1) (w + 1) else lrnN a b k s m (w + 1)))
      have skip : fX6_learnt_c49 (fX6_learnt_c8 n) (nI a) (nI b) (nI s) (nI m) (nI w) = some (nI (lrnN a b k s m (w + 1))) := by
        unfold fX6_learnt_c49
        rw [letb_eq, show nI w + (1 : Int32) = nI (w + 1) from n_add w 1]
        exact ih _ _ _ n (by omega) (by omega) (by omega)
      by_cases h0 : m = 0
      · subst h0
        rw [if_pos (show nI 0 ≤ 0 from by decide), if_pos rfl]; rfl
      · rw [if_neg (show ¬ nI m ≤ 0 from i_nle (b := 0) (by omega) (by decide) (by omega)), if_neg h0, skip, bitN (by omega) (by omega), bitN (by omega) (by omega)]
        by_cases hc : bit a w = 1
        · rw [hc, if_pos (show nI 1 = (1 : Int32) from rfl)]
          by_cases hd : bit b w = 0
          · rw [hd, if_pos (show nI 0 = (0 : Int32) from rfl), if_pos ⟨rfl, rfl⟩, letb_eq, letb_eq, shl1 w (by omega), fa_or]
            unfold fX6_learnt_c49
            rw [letb_eq, show nI w + (1 : Int32) = nI (w + 1) from n_add w 1]
            obtain ⟨q, rfl⟩ : ∃ q, m = q + 1 := ⟨m - 1, by omega⟩
            rw [pk_m1, Nat.add_sub_cancel]
            exact ih _ _ _ n (by omega) (by omega) (by omega)
          · rw [if_neg (i_ne0 (by omega) hd), if_neg (fun q => hd q.2)]
        · rw [if_neg (i_ne1 (by omega) hc), if_neg (fun q => hc q.1)]
theorem m_learnt {a b m : Nat} (ha : a < 512) (hb : b < 512) (hm : m < 1000) : fX6_learnt (nI a) (nI b) (nI m) = some (nI (lrn a b m)) := m_learnt_lp ha hb 9 0 m 0 FU (by omega) (by rw [FU_eq]; omega) hm
theorem m_brings (hI : Inv D R) {k s : Nat} (hk : k < 8) (hs : s < 100) : fX6_brings (nI k) (nI s) (mG G R) J = some (nI (brS (R (35 + 5 * k)) s)) := by
  have hkd := hI.kind hk
  unfold fX6_brings fX6_brings_c55
  rw [show fX6_its (nI k) (0 : Int32) (mG G R) J = _ from m_its0 hk, bind_eq]
  rcases (show R (35 + 5 * k) = 0 ∨ R (35 + 5 * k) = 1 ∨ R (35 + 5 * k) = 2 ∨ R (35 + 5 * k) = 3 ∨ R (35 + 5 * k) = 4 ∨ R (35 + 5 * k) = 5 by omega) with h | h | h | h | h | h <;> rw [h]
  · show some ((10 : Int32) * nI s) = some (nI (10 * s))
    rw [n_10, n_mul]
  · show some ((10 : Int32) * nI s) = some (nI (10 * s))
    rw [n_10, n_mul]
  · show some ((5 : Int32) * nI s) = some (nI (5 * s))
    rw [n_5, n_mul]
  · show some (((10 : Int32) * nI s) + (7 : Int32)) = some (nI (10 * s + 7))
    rw [n_10, n_7, n_mul, n_add]
  · show some ((10 : Int32) * nI s) = some (nI (10 * s))
    rw [n_10, n_mul]
  · show some (((5 : Int32) * nI s) + (20 : Int32)) = some (nI (5 * s + 20))
    rw [n_5, n_20, n_mul, n_add]
theorem m_tells (hI : Inv D R) {k s : Nat} (hk : k < 8) (h1 : 1 ≤ s) (hs : s < 100) : fX6_tells (nI k) (nI s) (mG G R) J = some (nI (teS (R (35 + 5 * k)) s)) := by
  have hkd := hI.kind hk
  unfold fX6_tells
  rw [show fX6_its (nI k) (0 : Int32) (mG G R) J = _ from m_its0 hk, bind_eq]
  rcases (show R (35 + 5 * k) = 0 ∨ R (35 + 5 * k) = 1 ∨ R (35 + 5 * k) = 2 ∨ R (35 + 5 * k) = 3 ∨ R (35 + 5 * k) = 4 ∨ R (35 + 5 * k) = 5 by omega) with h | h | h | h | h | h <;> rw [h]
  · rfl
  · show some ((2 : Int32) * nI s) = some (nI (2 * s))
    rw [n_2, n_mul]
  · rfl
  · show some (nI s - (1 : Int32)) = some (nI (s - 1))
    rw [n_1, n_sub h1]
  · show some (((2 : Int32) * nI s) + (1 : Int32)) = some (nI (2 * s + 1))
    rw [n_2, n_1, n_mul, n_add]
  · show some ((1 : Int32) + (nI s / (3 : Int32))) = some (nI (1 + s / 3))
    rw [n_1, n_3, n_div (by omega) (by decide) (by decide), n_add]
end MM
