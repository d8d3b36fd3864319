section RF
variable {R1 R2 R3 : M2} {K : Int32} {T : M2} {SN : J2} {SZ : M2} {F : M1} {G : M2} {J : J2}
def kwS (R : Rw) (k a w : Nat) : Rw := wr (wr R (35 + 5 * k) a) (38 + 5 * k) w
theorem kw_inv {R : Rw} (hI : Inv 9999 R) {k a w : Nat} (ha : a ≤ 5) (hw : w ≤ 511) : Inv 9999 (kwS R k a w) := Inv.set (Inv.set hI (by rw [bnd_kind]; exact ha) (by omega)) (by rw [bnd_words]; exact hw) (by omega)
theorem m_read_lp {P : Nat → Int64} {H : M2} {R : Rw} (hI : Inv 9999 R) (h4 : H 4 = encG R) {q k z : Nat} (hq : q < 4) (hk : k < 8) (hz : z ≤ 40) (h7 : H 7 q = nI z) (hP : ∀ i, i < 40 → J 1 (40 * q + i) = P i) : ∀ m x fuel {acc : Nat} {c w : Int32}, x + m = 3072 → m < fuel → ∃ c' w', fX6_read_c64 fuel (nI q) (nI k) (nI acc) (nI x) (mG (cw H c w) R) J = some (nI (acc + sumM (fun x => if rd P k (kwS R k (x / 512) (x % 512)) z 0 = true then 1 else 0) x m), mG (cw H c' w') R) := by
  intro m
  induction m with
  | zero =>
    intro x fuel acc c w hx hf
    obtain ⟨f, rfl⟩ : ∃ f, fuel = f + 1 := ⟨fuel - 1, by omega⟩
    refine ⟨c, w, ?_⟩
    rw [fX6_read_c64, if_pos (show (3072 : Int32) ≤ nI x from i_le (a := 3072) (by decide) (by omega) (by omega))]
    rfl
  | succ m ih =>
    intro x fuel acc c w hx hf
    obtain ⟨f, rfl⟩ : ∃ f, fuel = f + 1 := ⟨fuel - 1, by omega⟩
    have hJ := kw_inv hI (k := k) (a := x / 512) (w := x % 512) (by omega) (by omega)
    have e1 : nI x / (512 : Int32) = nI (x / 512) := n_div (d := 512) (by omega) (by decide) (by decide)
    have e2 : nI x - nI (x / 512) * (512 : Int32) = nI (x % 512) := by
      rw [← e1]; exact n_rem (d := 512) (by omega) (by decide) (by decide)
    have p0 : fX6_puts (nI k) (0 : Int32) (nI (x / 512)) (mG (cw H c w) R) J = some (mG (cw H c w) (wr R (35 + 5 * k) (x / 512))) := m_puts0 hk
    have p3 : fX6_puts (nI k) (3 : Int32) (nI (x % 512)) (mG (cw H c w) (wr R (35 + 5 * k) (x / 512))) J = some (mG (cw H c w) (kwS R k (x / 512) (x % 512))) := m_puts3 hk
    obtain ⟨S', c1, w1, hs⟩ := m_so (J := J) hq hk hz h7 hP z 0 FU (S := kwS R k (x / 512) (x % 512)) (c := c) (w := w) (by omega) (by rw [FU_eq]; omega) hJ (by omega)
    have hs' : fX6_isSo (nI q) (nI k) (mG (cw H c w) (kwS R k (x / 512) (x % 512))) J = some (if rd P k (kwS R k (x / 512) (x % 512)) z 0 = true then 1 else 0, mG (cw H c1 w1) S') := hs
    have eb : fX6_moveAll_p4 (0 : Int32) (mG (cw H c1 w1) S') J = some (mG (cw H c1 w1) R) := by
      rw [mv4_0 (R := S') (T := R) mG_1 (by rw [mG_a (by decide), cw_a _ _ _ (by decide), h4]), mG_put]
    rw [fX6_read_c64, if_neg (show ¬ (3072 : Int32) ≤ nI x from i_nle (a := 3072) (by decide) (by omega) (by omega)), e1, p0, bind_eq, e2, p3, bind_eq, hs', bind2_eq]
    unfold fX6_read_c112
    rw [eb]
    simp only [letb_eq, bind_eq]
    rw [show nI x + (1 : Int32) = nI (x + 1) from n_add x 1, show nI acc + (0 : Int32) = nI (acc + 0) from n_add acc 0, show nI acc + (1 : Int32) = nI (acc + 1) from n_add acc 1]
    show ∃ c' w', _ = some (nI (acc + ((if rd P k (kwS R k (x / 512) (x % 512)) z 0 = true then 1 else 0) + sumM (fun x => if rd P k (kwS R k (x / 512) (x % 512)) z 0 = true then 1 else 0) (x + 1) m)), _)
    by_cases hr : rd P k (kwS R k (x / 512) (x % 512)) z 0 = true
    · rw [if_pos hr, if_pos hr, ifn10, ← Nat.add_assoc]
      exact ih (x + 1) f (by omega) (by omega)
    · rw [if_neg hr, if_neg hr, ifp00, ← Nat.add_assoc]
      exact ih (x + 1) f (by omega) (by omega)
theorem c_read_lp {P : Nat → Int64} {R : Rw} {u d : Int32} (hI : Inv 9999 R) {q k z a : Nat} {v : Int64} (hv : v.toInt32 = nI a) (ha : a ≤ 511) (hk : k < 8) (hz : z ≤ 40) (h1 : SZ q 1 = nI z) (hP : ∀ i, i < 40 → SN q i = P i) : ∀ m x fuel {acc : Nat} {S : Rw} {ut dt : Int32}, x + m = 6 → m < fuel → ∃ S' u' d', fX5_countKindsThatRead_c29 fuel q (nI k) v (nI acc) (nI x) (encL R u d) (encL S ut dt) R3 K T SN SZ F = some (nI (acc + sumM (fun x => if rd P k (kwS R k x a) z 0 = true then 1 else 0) x m), encL S' u' d') := by
  intro m
  induction m with
  | zero =>
    intro x fuel acc S ut dt hx hf
    obtain ⟨f, rfl⟩ : ∃ f, fuel = f + 1 := ⟨fuel - 1, by omega⟩
    refine ⟨S, ut, dt, ?_⟩
    rw [fX5_countKindsThatRead_c29, if_pos (show (6 : Int32) ≤ nI x from i_le (a := 6) (by decide) (by omega) (by omega))]
    rfl
  | succ m ih =>
    intro x fuel acc S ut dt hx hf
    obtain ⟨f, rfl⟩ : ∃ f, fuel = f + 1 := ⟨fuel - 1, by omega⟩
    have hJ := kw_inv hI (k := k) (a := x) (w := a) (by omega) ha
    obtain ⟨S', u', d', hs⟩ := c_reads (R1 := encL R u d) (R3 := R3) (K := K) (T := T) (SN := SN) (SZ := SZ) (F := F) hk hz h1 hP z 0 FU (S := kwS R k x a) (ut := ut) (dt := dt) (by omega) (by rw [FU_eq]; omega) hJ (by omega)
    have hs' : fX5_trialReads q (nI k) (encL R u d) (encL (kwS R k x a) ut dt) R3 K T SN SZ F = some (if rd P k (kwS R k x a) z 0 = true then 1 else 0, encL S' u' d') := hs
    rw [fX5_countKindsThatRead_c29, if_neg (show ¬ (6 : Int32) ≤ nI x from i_nle (a := 6) (by decide) (by omega) (by omega)), c_start, bind_eq, g_inb (by omega) (by omega), n_cl (by omega), encL_s2 hk, letb_eq, g_inb (by omega) (by omega), hv, encL_s5 hk, letb_eq, show wr (wr R (35 + 5 * k) x) (38 + 5 * k) a = kwS R k x a from rfl, hs', bind2_eq]
    unfold fX5_countKindsThatRead_c74
    simp only [letb_eq]
    rw [show nI x + (1 : Int32) = nI (x + 1) from n_add x 1, show nI acc + (1 : Int32) = nI (acc + 1) from n_add acc 1]
    show ∃ S' u' d', _ = some (nI (acc + ((if rd P k (kwS R k x a) z 0 = true then 1 else 0) + sumM (fun x => if rd P k (kwS R k x a) z 0 = true then 1 else 0) (x + 1) m)), _)
    by_cases hr : rd P k (kwS R k x a) z 0 = true
    · rw [if_pos hr, if_pos hr, ifn10, ← Nat.add_assoc]
      exact ih (x + 1) f (by omega) (by omega)
    · rw [if_neg hr, if_neg hr, ifp00, Nat.zero_add]
      exact ih (x + 1) f (by omega) (by omega)
theorem sum_add (f : Nat → Nat) : ∀ m i n, sumM f i (m + n) = sumM f i m + sumM f (i + m) n := by
  intro m
  induction m with
  | zero => intro i n; rw [Nat.zero_add, Nat.add_zero]; exact (Nat.zero_add _).symm
  | succ m ih =>
    intro i n
    rw [show m + 1 + n = (m + n) + 1 by omega]
    show f i + sumM f (i + 1) (m + n) = f i + sumM f (i + 1) m + sumM f (i + (m + 1)) n
    rw [ih, show i + 1 + m = i + (m + 1) by omega, Nat.add_assoc]
theorem sum_0 {f : Nat → Nat} : ∀ m i, (∀ j, i ≤ j → j < i + m → f j = 0) → sumM f i m = 0 := by
  intro m
  induction m with
  | zero => intro i _; rfl
  | succ m ih =>
    intro i h
    show f i + sumM f (i + 1) m = 0
    rw [h i (by omega) (by omega), ih (i + 1) (fun j h1 h2 => h j (by omega) (by omega))]
theorem sum_1 {f : Nat → Nat} : ∀ m i, (∀ j, i ≤ j → j < i + m → f j = 1) → sumM f i m = m := by
  intro m
  induction m with
  | zero => intro i _; rfl
  | succ m ih =>
    intro i h
    show f i + sumM f (i + 1) m = m + 1
    rw [h i (by omega) (by omega), ih (i + 1) (fun j h1 h2 => h j (by omega) (by omega))]
    omega
theorem sum_one {f : Nat → Nat} {i a : Nat} (ha : a ≤ 511) (h : ∀ j, i ≤ j → j < i + 512 → j ≠ i + a → f j = 0) : sumM f i 512 = f (i + a) := by
  rw [show 512 = a + (1 + (511 - a)) by omega, sum_add, sum_add, sum_0 a i (fun j h1 h2 => h j h1 (by omega) (by omega)), sum_0 (511 - a) (i + a + 1) (fun j h1 h2 => h j (by omega) (by omega) (by omega)), Nat.zero_add, Nat.add_zero]
  exact Nat.add_zero _
end RF
