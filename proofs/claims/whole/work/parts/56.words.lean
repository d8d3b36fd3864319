section WO
variable {T G : M2} {J : J2} {B : Nat → Nat} {n : Nat} {a b c d g x : Int32} {w : Int64}
-- ===== the twelve words =====
def wl (i : Nat) : Nat := lenJS.getD i 0
def wb (i j : Nat) : Nat := ((bytJS.getD i []).getD j 0).toNatClampNeg
def cdN (i : Nat) : Nat := ([160605414, 1041492564, 11263, 10364, 410684, 257153, 419, 6132988, 13987, 365321, 11190, 43138] : List Nat).getD i 0
theorem w_len : ∀ i, i < 12 → fJ0_length_8abf5 i = some (nI (wl i)) := by decide +kernel
theorem w_chr : ∀ i, i < 12 → ∀ j, j < wl i → fJ0_charAt_5068e i (nI j) = some (nI (wb i j)) := by decide +kernel
theorem w_let : ∀ i, i < 12 → ∀ j, j < wl i → 97 ≤ wb i j ∧ wb i j ≤ 122 := by decide +kernel
theorem wl_le : ∀ i, i < 12 → wl i ≤ 7 := by decide +kernel
/-- word i stands at the place e -/
def isW (B : Nat → Nat) (n e i : Nat) : Prop := tY B n e = 1 ∧ tC B n e - tS B n e = wl i ∧ ∀ j, j < wl i → B (tS B n e + j) = wb i j
theorem c_shT (h : TB B n T G) {i s : Nat} (hi : i < 12) (hs : s + wl i ≤ n) : ∀ m j fuel, j + m = wl i → m < fuel → (∀ k, j ≤ k → k < wl i → B (s + k) = wb i k) → fX3_showsWord_c28 fuel (nI j) i (tk T a (nI s) c d) = some 1 := by
  have hn := h.1
  have hl := wl_le i hi
  intro m
  induction m with
  | zero =>
    intro j fuel hj hf hk
    obtain ⟨q, rfl⟩ : ∃ q, fuel = q + 1 := ⟨fuel - 1, by omega⟩
    rw [fX3_showsWord_c28, w_len i hi, bind_eq, if_pos (i_le (by omega) (by omega) (by omega))]
    rfl
  | succ m ih =>
    intro j fuel hj hf hk
    obtain ⟨q, rfl⟩ : ∃ q, fuel = q + 1 := ⟨fuel - 1, by omega⟩
    rw [fX3_showsWord_c28, w_len i hi, bind_eq, if_neg (i_nle (by omega) (by omega) (by omega)), tk_2, n_add, g_inb (by omega) (by omega), n_cl (by omega), w_chr i hi j (by omega), bind_eq, tk_r, h.2.2.2.1 _ (by omega), hk j (Nat.le_refl _) (by omega), if_pos rfl, letb_eq, show nI j + (1 : Int32) = nI (j + 1) from n_add j 1]
    exact ih (j + 1) q (by omega) (by omega) (fun k k1 k2 => hk k (by omega) k2)
theorem c_shF (h : TB B n T G) {i s : Nat} (hi : i < 12) (hs : s + wl i ≤ n) : ∀ m j fuel, j + m = wl i → m < fuel → (¬ ∀ k, j ≤ k → k < wl i → B (s + k) = wb i k) → fX3_showsWord_c28 fuel (nI j) i (tk T a (nI s) c d) = some 0 := by
  have hn := h.1
  have hl := wl_le i hi
  intro m
  induction m with
  | zero =>
    intro j fuel hj hf hk
    exact absurd (fun k k1 k2 => by omega) hk
  | succ m ih =>
    intro j fuel hj hf hk
    obtain ⟨q, rfl⟩ : ∃ q, fuel = q + 1 := ⟨fuel - 1, by omega⟩
    have hb := h.2.2.2.2.2 (s + j)
    have hw := w_let i hi j (by omega)
    rw [fX3_showsWord_c28, w_len i hi, bind_eq, if_neg (i_nle (by omega) (by omega) (by omega)), tk_2, n_add, g_inb (by omega) (by omega), n_cl (by omega), w_chr i hi j (by omega), bind_eq, tk_r, h.2.2.2.1 _ (by omega)]
    by_cases hc : B (s + j) = wb i j
    · rw [hc, if_pos rfl, letb_eq, show nI j + (1 : Int32) = nI (j + 1) from n_add j 1]
      refine ih (j + 1) q (by omega) (by omega) (fun hh => hk (fun k k1 k2 => ?_))
      by_cases e : k = j
      · rw [e]; exact hc
      · exact hh k (by omega) k2
    · rw [if_neg (i_ne (by omega) (by omega) hc)]
      rfl
theorem c_showT (h : TB B n T G) {e i : Nat} (he : e ≤ n) (hi : i < 12) (hw : isW B n e i) : fX3_showsWord i (TT T B n e) = some 1 := by
  have h1 := tC_le (B := B) he
  have hn := h.1
  have hl := wl_le i hi
  unfold fX3_showsWord TT
  rw [tk_1, hw.1, if_pos (show nI 1 = (1 : Int32) from rfl), w_len i hi, bind_eq, tk_3, tk_2, n_sub h1.1, hw.2.1, if_pos rfl]
  have := hw.2.1
  exact c_shT h hi (by omega) (wl i) 0 FU (by omega) (by rw [FU_eq]; omega) (fun k _ k2 => hw.2.2 k k2)
theorem c_showF (h : TB B n T G) {e i : Nat} (he : e ≤ n) (hi : i < 12) (hw : ¬ isW B n e i) : fX3_showsWord i (TT T B n e) = some 0 := by
  have h1 := tC_le (B := B) he
  have h2 := tY_4 (B := B) (n := n) e
  have hn := h.1
  have hl := wl_le i hi
  unfold fX3_showsWord fX3_showsWord_c24 TT
  rw [tk_1]
  by_cases k1 : tY B n e = 1
  · rw [k1, if_pos (show nI 1 = (1 : Int32) from rfl), w_len i hi, bind_eq, tk_3, tk_2, n_sub h1.1]
    by_cases k2 : tC B n e - tS B n e = wl i
    · rw [k2, if_pos rfl]
      exact c_shF h hi (by omega) (wl i) 0 FU (by omega) (by rw [FU_eq]; omega) (fun hh => hw ⟨k1, k2, fun j hj => hh j (Nat.zero_le _) hj⟩)
    · rw [if_neg (i_ne (by omega) (by omega) k2)]
  · rw [if_neg (show ¬ nI (tY B n e) = (1 : Int32) from i_ne (b := 1) (by omega) (by decide) k1)]
-- ===== the numbers of words =====
def cd (x : Nat → Nat) : Nat → Nat
  | 0 => 0
  | k + 1 => 27 * cd x k + (x k - 96)
theorem cd_word : ∀ i, i < 12 → cd (wb i) (wl i) = cdN i := by decide +kernel
theorem cd_inj {x y : Nat → Nat} : ∀ L M, (∀ j, j < L → 97 ≤ x j ∧ x j ≤ 122) → (∀ j, j < M → 97 ≤ y j ∧ y j ≤ 122) → cd x L = cd y M → L = M ∧ ∀ j, j < L → x j = y j := by
  intro L
  induction L with
  | zero =>
    intro M hx hy h
    cases M with
    | zero => exact ⟨rfl, fun j hj => absurd hj (by omega)⟩
    | succ M =>
      have := hy M (by omega)
      rw [cd, cd] at h
      omega
  | succ L ih =>
    intro M hx hy h
    cases M with
    | zero =>
      have := hx L (by omega)
      rw [cd, cd] at h
      omega
    | succ M =>
      have h1 := hx L (by omega)
      have h2 := hy M (by omega)
      rw [cd, cd] at h
      obtain ⟨e1, e2⟩ := ih M (fun j hj => hx j (by omega)) (fun j hj => hy j (by omega)) (by omega)
      subst e1
      refine ⟨rfl, fun j hj => ?_⟩
      by_cases e : j = L
      · rw [e]; omega
      · exact e2 j (by omega)
theorem cd_lt {x : Nat → Nat} : ∀ L, (∀ j, j < L → 97 ≤ x j ∧ x j ≤ 122) → cd x L < 27 ^ L := by
  intro L
  induction L with
  | zero => intro _; exact Nat.zero_lt_one
  | succ L ih =>
    intro hx
    have h1 := ih (fun j hj => hx j (by omega))
    have h2 := hx L (by omega)
    rw [cd, Nat.pow_succ]
    omega
theorem cd_lt12 {x : Nat → Nat} {L : Nat} (hL : L ≤ 12) (hx : ∀ j, j < L → 97 ≤ x j ∧ x j ≤ 122) : cd x L < 2 ^ 63 :=
  Nat.lt_of_lt_of_le (cd_lt L hx) (Nat.le_trans (Nat.pow_le_pow_right (by omega) hL) (by decide))
theorem ru_all (P : Nat → Bool) : ∀ f p j, p ≤ j → j < ru P f p → P j = true := by
  intro f
  induction f with
  | zero => intro p j h1 h2; rw [ru] at h2; omega
  | succ f ih =>
    intro p j h1 h2
    rw [ru] at h2
    by_cases hc : P p = true
    · rw [if_pos hc] at h2
      by_cases e : j = p
      · rw [e]; exact hc
      · exact ih (p + 1) j (by omega) h2
    · rw [if_neg hc] at h2
      omega
theorem wd_m1 {s : Nat} : ∀ f p, 12 ≤ p - s → wd B s f p (-1) = -1 := by
  intro f
  induction f with
  | zero => intro p _; rfl
  | succ f ih =>
    intro p hp
    rw [wd, if_neg (show ¬ p - s < 12 by omega)]
    split
    · exact ih (p + 1) (by omega)
    · rfl
theorem b64 : ∀ b, b < 256 → (nI b).toInt64 = Int64.ofNat b := by decide +kernel
theorem step64 {k b : Nat} (hb : b < 256) (h : 97 ≤ b) : (27 : Int64) * Int64.ofNat k + (nI b).toInt64 - 96 = Int64.ofNat (27 * k + (b - 96)) := by
  rw [b64 b hb, show (27 : Int64) = Int64.ofNat 27 from rfl, ← Int64.ofNat_mul, ← Int64.ofNat_add, show (96 : Int64) = Int64.ofNat 96 from rfl, ← Int64.ofNat_sub _ _ (by omega)]
  congr 1
  omega
theorem wd_cd (hB : ∀ j, B j < 256) {s : Nat} : ∀ f p, s ≤ p → p - s ≤ 12 → wd B s f p (Int64.ofNat (cd (fun j => B (s + j)) (p - s))) = if ru (fun j => cl (B j) == 1) f p - s ≤ 12 then Int64.ofNat (cd (fun j => B (s + j)) (ru (fun j => cl (B j) == 1) f p - s)) else -1 := by
  intro f
  induction f with
  | zero =>
    intro p h1 h2
    rw [wd, ru, if_pos h2]
  | succ f ih =>
    intro p h1 h2
    rw [wd, ru]
    by_cases hc : cl (B p) = 1
    · have hl := cl_1.mp hc
      rw [if_pos hc, if_pos (show (cl (B p) == 1) = true by rw [beq_iff_eq]; exact hc)]
      by_cases h12 : p - s < 12
      · rw [if_pos h12, step64 (hB p) hl.1]
        have e : 27 * cd (fun j => B (s + j)) (p - s) + (B p - 96) = cd (fun j => B (s + j)) (p + 1 - s) := by
          rw [show p + 1 - s = (p - s) + 1 by omega, cd, show s + (p - s) = p by omega]
        rw [e]
        exact ih (p + 1) (by omega) (by omega)
      · rw [if_neg h12, wd_m1 f (p + 1) (by omega)]
        have := ru_le (fun j => cl (B j) == 1) f (p + 1)
        rw [if_neg (by omega)]
    · rw [if_neg hc, if_neg (show ¬ (cl (B p) == 1) = true by rw [beq_iff_eq]; exact hc), if_pos h2]
theorem cdN_m1 : ∀ i, i < 12 → (-1 : Int64) ≠ Int64.ofNat (cdN i) := by decide +kernel
theorem cdN_lt : ∀ i, i < 12 → cdN i < 2 ^ 63 := by decide +kernel
theorem tW_iff (hB : ∀ j, B j < 256) {e i : Nat} (hi : i < 12) (h1 : tY B n e = 1) : tW B n e = Int64.ofNat (cdN i) ↔ (tC B n e - tS B n e = wl i ∧ ∀ j, j < wl i → B (tS B n e + j) = wb i j) := by
  have eC : tC B n e = ru (fun j => cl (B j) == 1) (n - tS B n e) (tS B n e) := by unfold tC; rw [h1, if_neg (by decide)]
  have eW : tW B n e = if tC B n e - tS B n e ≤ 12 then Int64.ofNat (cd (fun j => B (tS B n e + j)) (tC B n e - tS B n e)) else -1 := by
    unfold tW
    rw [if_pos h1, eC]
    have q := wd_cd hB (s := tS B n e) (n - tS B n e) (tS B n e) (Nat.le_refl _) (by omega)
    rw [Nat.sub_self] at q
    exact q
  have hl : ∀ j, j < tC B n e - tS B n e → 97 ≤ B (tS B n e + j) ∧ B (tS B n e + j) ≤ 122 := by
    intro j hj
    have q := ru_all (fun j => cl (B j) == 1) (n - tS B n e) (tS B n e) (tS B n e + j) (by omega) (by rw [← eC]; omega)
    exact cl_1.mp (beq_iff_eq.mp q)
  have hwl := wl_le i hi
  rw [eW]
  by_cases h12 : tC B n e - tS B n e ≤ 12
  · rw [if_pos h12]
    constructor
    · intro h
      have h2 := congrArg Int64.toInt h
      rw [Int64.toInt_ofNat_of_lt (cd_lt12 h12 hl), Int64.toInt_ofNat_of_lt (cdN_lt i hi), ← cd_word i hi] at h2
      obtain ⟨q1, q2⟩ := cd_inj _ _ hl (w_let i hi) (Int.ofNat.inj h2)
      exact ⟨q1, fun j hj => q2 j (by omega)⟩
    · intro h
      rw [h.1, ← cd_word i hi]
      congr 1
      have : ∀ m, m ≤ wl i → cd (fun j => B (tS B n e + j)) m = cd (wb i) m := by
        intro m
        induction m with
        | zero => intro _; rfl
        | succ m ih => intro hm; rw [cd, cd, ih (by omega), h.2 m (by omega)]
      exact this _ (Nat.le_refl _)
  · rw [if_neg h12]
    exact ⟨fun h => absurd h (cdN_m1 i hi), fun h => absurd h.1 (by omega)⟩
theorem m_isT (hB : ∀ j, B j < 256) {e i : Nat} (hi : i < 12) (hw : isW B n e i) : fX6_isWord (Int64.ofNat (cdN i)) (GG G B n g e) (JJ J B n e) = some 1 := by
  have e3 : GG G B n g e 0 3 = nI 1 := by unfold GG tQ; rw [gk_3, hw.1]; rfl
  have e0 : JJ J B n e 0 0 = tW B n e := rfl
  unfold fX6_isWord fX6_isWord_c22
  rw [e3, if_pos (show nI 1 = (1 : Int32) from rfl), e0, (tW_iff hB hi hw.1).mpr hw.2, if_pos ((lg0 _ _).mpr rfl)]
  rfl
theorem m_isF (hB : ∀ j, B j < 256) {e i : Nat} (hi : i < 12) (hw : ¬ isW B n e i) : fX6_isWord (Int64.ofNat (cdN i)) (GG G B n g e) (JJ J B n e) = some 0 := by
  have e3 : GG G B n g e 0 3 = nI (tQ B n e) := rfl
  have e0 : JJ J B n e 0 0 = tW B n e := rfl
  have hq3 := tQ_3 (B := B) (n := n) e
  unfold fX6_isWord fX6_isWord_c21 fX6_isWord_c22
  rw [e3, e0]
  by_cases k1 : tY B n e = 1
  · have k3 : tQ B n e = 1 := by unfold tQ; rw [k1]; rfl
    rw [k3, if_pos (show nI 1 = (1 : Int32) from rfl), if_neg (fun q => hw ⟨k1, (tW_iff hB hi k1).mp ((lg0 _ _).mp q)⟩)]
    rfl
  · have k3 : tQ B n e ≠ 1 := by unfold tQ; split <;> omega
    rw [if_neg (show ¬ nI (tQ B n e) = (1 : Int32) from i_ne (b := 1) (by omega) (by decide) k3)]
    rfl
-- two words don't stand at one place
theorem w_ne : ∀ i, i < 12 → ∀ k, k < 12 → cdN i = cdN k → i = k := by decide +kernel
end WO
