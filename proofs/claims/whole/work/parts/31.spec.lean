-- bits (out of kit/laws)
def bt (x : Int32) (i : Nat) : Bool := x.toBitVec.getLsbD i
theorem b_ext {x y : Int32} (h : ∀ i, i < 32 → bt x i = bt y i) : x = y := Int32.toBitVec_inj.mp (BitVec.eq_of_getLsbD_eq (fun i hi => h i hi))
theorem b_or (x y : Int32) (i : Nat) : bt (x ||| y) i = (bt x i || bt y i) := by unfold bt; rw [Int32.toBitVec_or, BitVec.getLsbD_or]
theorem b_and (x y : Int32) (i : Nat) : bt (x &&& y) i = (bt x i && bt y i) := by unfold bt; rw [Int32.toBitVec_and, BitVec.getLsbD_and]
theorem b_xor (x y : Int32) (i : Nat) : bt (x ^^^ y) i = (bt x i ^^ bt y i) := by unfold bt; rw [Int32.toBitVec_xor, BitVec.getLsbD_xor]
theorem b_big {x : Int32} {i : Nat} (h : 32 ≤ i) : bt x i = false := BitVec.getLsbD_of_ge _ _ h
theorem b_m1 : ∀ i, i < 32 → bt (-1) i = true := by decide +kernel
theorem b_0 (i : Nat) : bt 0 i = false := BitVec.getLsbD_zero
theorem s_l : ∀ n, n < 32 → ((nI n &&& 31).toBitVec.smod 32).toNat = n := by decide +kernel
theorem b_sshr (n : Nat) (hn : n < 32) (x : Int32) {i : Nat} (hi : i < 32) : bt (x >>> (nI n &&& 31)) i = if n + i < 32 then bt x (n + i) else bt x 31 := by
  unfold bt
  rw [Int32.toBitVec_shiftRight]
  show (x.toBitVec.sshiftRight ((nI n &&& 31).toBitVec.smod 32).toNat).getLsbD i = _
  rw [s_l n hn, BitVec.getLsbD_sshiftRight, BitVec.msb_eq_getLsbD_last]
  simp [hi]
theorem fa_and (a b : Nat) : nI a &&& nI b = nI (a &&& b) := by
  apply Int32.toBitVec_inj.1
  show BitVec.ofNat 32 a &&& BitVec.ofNat 32 b = BitVec.ofNat 32 (a &&& b)
  apply BitVec.eq_of_getLsbD_eq
  intro i hi
  simp [hi]
theorem fa_or (a b : Nat) : nI a ||| nI b = nI (a ||| b) := by
  apply Int32.toBitVec_inj.1
  show BitVec.ofNat 32 a ||| BitVec.ofNat 32 b = BitVec.ofNat 32 (a ||| b)
  apply BitVec.eq_of_getLsbD_eq
  intro i hi
  simp [hi]
theorem fb_xorI (a b : Nat) : nI a ^^^ nI b = nI (a ^^^ b) := by
  apply Int32.toBitVec_inj.1
  show BitVec.ofNat 32 a ^^^ BitVec.ofNat 32 b = BitVec.ofNat 32 (a ^^^ b)
  apply BitVec.eq_of_getLsbD_eq
  intro i hi
  simp [hi]
theorem b_1 : ∀ i, i < 32 → bt 1 i = decide (i = 0) := by decide +kernel
theorem bitI (x : Int32) {w : Nat} (hw : w < 9) : ((x >>> (nI w &&& 31)) &&& 1) = if bt x w = true then 1 else 0 := by
  apply b_ext
  intro i hi
  rw [b_and, b_sshr w (by omega) x hi, b_1 i hi]
  by_cases h0 : i = 0
  · subst h0
    rw [if_pos (by omega : w + 0 < 32), Nat.add_zero]
    cases h : bt x w
    · rw [if_neg (by decide), b_0]; rfl
    · rw [if_pos rfl, b_1 0 (by decide)]; rfl
  · rw [decide_eq_false h0, Bool.and_false]
    cases h : bt x w
    · rw [if_neg (by decide), b_0]
    · rw [if_pos rfl, b_1 i hi, decide_eq_false h0]
def bit (a w : Nat) : Nat := a / 2 ^ w % 2
theorem bit_lt (a w : Nat) : bit a w < 2 := Nat.mod_lt _ (by decide)
theorem bitN {a w : Nat} (ha : a < 2147483648) (hw : w < 9) : ((nI a >>> (nI w &&& 31)) &&& 1) = nI (bit a w) := by
  rw [pk_shrN ha (nI w &&& 31) w (s_l w (by omega))]
  have h : a / 2 ^ w ≤ a := Nat.div_le_self _ _
  exact pk_andN (by omega) 1 (by decide)
theorem bt_bit {a w : Nat} (ha : a < 2147483648) (hw : w < 9) : (bt (nI a) w = true) ↔ bit a w = 1 := by
  have h1 := bitN ha hw
  rw [bitI _ hw] at h1
  have h2 := bit_lt a w
  constructor
  · intro h
    rw [if_pos h, n_1, n_eq (by decide) (by omega)] at h1
    exact h1.symm
  · intro h
    by_cases hb : bt (nI a) w = true
    · exact hb
    · rw [if_neg hb, h] at h1
      exact absurd h1 (by decide)
/-- a bit of what one knew and the other didn't -/
theorem bit_andn {a b w : Nat} (ha : a < 2147483648) (hb : b < 2147483648) (hw : w < 9) : ((((nI a &&& (nI b ^^^ (-1 : Int32))) >>> (nI w &&& 31)) &&& (1 : Int32)) = (1 : Int32)) = (bit a w = 1 ∧ bit b w = 0) := by
  apply propext
  rw [bitI _ hw, b_and, b_xor, b_m1 w (by omega)]
  have h1 := bt_bit ha hw
  have h2 := bt_bit hb hw
  have h3 := bit_lt b w
  cases hx : bt (nI a) w <;> cases hy : bt (nI b) w
  · simp [hx, hy] at h1 h2 ⊢
    intro q
    exact absurd q h1
  · simp [hx, hy] at h1 h2 ⊢
    intro q
    exact absurd q h1
  · simp [hx, hy] at h1 h2 ⊢
    exact ⟨h1, by omega⟩
  · simp [hx, hy] at h1 h2 ⊢
    intro _
    omega
theorem shl1 : ∀ w, w < 9 → (1 : Int32) <<< (nI w &&& 31) = nI (2 ^ w) := by decide +kernel
theorem shl0 : ∀ w, w < 9 → (0 : Int32) <<< (nI w &&& 31) = nI 0 := by decide +kernel
theorem xor_pos {a b : Nat} (ha : a < 2147483648) (hb : b < 2147483648) : (0 ≤ (nI a ^^^ nI b)) = True := by
  rw [fb_xorI]
  have h : a ^^^ b < 2 ^ 31 := Nat.xor_lt_two_pow ha hb
  exact n_le0 (by omega)
theorem fmod28 {n : Nat} (hn : n < 2147483648) : fJ9_floorMod_7cf53 (nI n) (28 : Int32) = some (nI (n % 28)) := by
  unfold fJ9_floorMod_7cf53 fJ9_floorMod_7cf53_c18
  rw [grd_if (by decide), letb_eq, n_28, if_pos (of_eq_true (xor_pos hn (by decide))), n_rem hn (by decide) (by decide)]
def pcount (w : Nat) : Nat := w % 2 + w / 2 % 2 + w / 4 % 2 + w / 8 % 2 + w / 16 % 2 + w / 32 % 2 + w / 64 % 2 + w / 128 % 2 + w / 256 % 2
theorem bitCount_all : ∀ w, w < 512 → fJ6_bitCount_0f7a4 (nI w) = some (nI (pcount w)) := by decide +kernel
theorem bits_all : ∀ w, w < 512 → fX6_bits (nI w) = some (nI (pcount w)) := by decide +kernel
theorem pcount_le (w : Nat) : pcount w ≤ 9 := by unfold pcount; omega
-- ===== the words of the light =====
def sumM (f : Nat → Nat) : Nat → Nat → Nat
  | _, 0 => 0
  | i, m + 1 => f i + sumM f (i + 1) m
def anyM (p : Nat → Bool) : Nat → Nat → Bool
  | _, 0 => false
  | i, m + 1 => p i || anyM p (i + 1) m
def fstM (R : Rw) (x : Nat) : Nat → Nat → Nat → Nat
  | _, 0, b => b
  | i, m + 1, b => fstM R x (i + 1) m (if R (36 + 5 * i) = x ∧ (b = 0 ∨ R (37 + 5 * i) < R (37 + 5 * (b - 1))) then i + 1 else b)
def eB (b : Nat) : Int32 := if b = 0 then -1 else nI (b - 1)
def broS (R : Rw) (k o : Nat) : Bool := decide (¬ o = k) && (decide (R (36 + 5 * o) = 1) && (decide (R (35 + 5 * o) = 1) || decide (R (35 + 5 * o) = 4)))
def besS (R : Rw) (k : Nat) : Bool := anyM (broS R k) 0 (R 6)
def usS (R : Rw) (k : Nat) : Nat := if R (35 + 5 * k) = 2 then 1 else if R (35 + 5 * k) = 3 then 3 else if R (35 + 5 * k) = 4 then (if besS R k = true then 1 else 2) else 2
def usAll (R : Rw) : Nat := sumM (fun k => if R (36 + 5 * k) = 1 then usS R k else 0) 0 (R 6)
def brS (kd s : Nat) : Nat := if kd = 2 then 5 * s else if kd = 3 then 10 * s + 7 else if kd = 5 then 5 * s + 20 else 10 * s
def teS (kd s : Nat) : Nat := if kd = 1 then 2 * s else if kd = 2 then 1 else if kd = 3 then s - 1 else if kd = 4 then 2 * s + 1 else if kd = 5 then 1 + s / 3 else s
def secS (R : Rw) (n : Nat) : Nat := if R 1 ≤ R (7 + n % 28) then R (7 + n % 28) - R 1 + 1 else 0
def onS (R : Rw) : Nat := sumM (fun k => if R (36 + 5 * k) = 1 then 2 ^ k else 0) 0 (R 6)
def cntS (R : Rw) (x : Nat) : Nat := sumM (fun k => if R (36 + 5 * k) = x then 1 else 0) 0 (R 6)
def fstS (R : Rw) (x : Nat) : Nat := fstM R x 0 (R 6) 0
def knwS (R : Rw) (w : Nat) : Nat := sumM (fun k => bit (R (38 + 5 * k)) w) 0 (R 6)
def wrdS (R : Rw) : Nat := sumM (fun k => pcount (R (38 + 5 * k))) 0 (R 6)
def galS (R : Rw) : Nat := sumM (fun i => if R 1 ≤ R (7 + i) then 1 else 0) 0 28
def lrnN (a b : Nat) : Nat → Nat → Nat → Nat → Nat
  | 0, s, _, _ => s
  | k + 1, s, m, w => if m = 0 then s else if bit a w = 1 ∧ bit b w = 0 then lrnN a b k (s ||| 2 ^ w) (m - 1) (w + 1) else lrnN a b k s m (w + 1)
def lrn (a b m : Nat) : Nat := lrnN a b 9 0 m 0
theorem sumM_le (f : Nat → Nat) (c : Nat) : ∀ m i, (∀ k, i ≤ k → k < i + m → f k ≤ c) → sumM f i m ≤ c * m := by
  intro m
  induction m with
  | zero => intro i h; exact Nat.zero_le _
  | succ m ih =>
    intro i h
    have h1 := h i (Nat.le_refl _) (by omega)
    have h2 := ih (i + 1) (fun k h1 h2 => h k (by omega) (by omega))
    show f i + sumM f (i + 1) m ≤ c * (m + 1)
    rw [Nat.mul_succ]
    omega
theorem sumM_cong {f h : Nat → Nat} : ∀ m i, (∀ k, i ≤ k → k < i + m → f k = h k) → sumM f i m = sumM h i m := by
  intro m
  induction m with
  | zero => intro i _; rfl
  | succ m ih =>
    intro i e
    show f i + sumM f (i + 1) m = h i + sumM h (i + 1) m
    rw [e i (Nat.le_refl _) (by omega), ih (i + 1) (fun k h1 h2 => e k (by omega) (by omega))]
theorem anyM_cong {f h : Nat → Bool} : ∀ m i, (∀ k, i ≤ k → k < i + m → f k = h k) → anyM f i m = anyM h i m := by
  intro m
  induction m with
  | zero => intro i _; rfl
  | succ m ih =>
    intro i e
    show (f i || anyM f (i + 1) m) = (h i || anyM h (i + 1) m)
    rw [e i (Nat.le_refl _) (by omega), ih (i + 1) (fun k h1 h2 => e k (by omega) (by omega))]
theorem fstM_le (R : Rw) (x : Nat) : ∀ m i b, b ≤ i → fstM R x i m b ≤ i + m := by
  intro m
  induction m with
  | zero => intro i b h; exact h
  | succ m ih =>
    intro i b h
    show fstM R x (i + 1) m _ ≤ i + (m + 1)
    have h2 : (if R (36 + 5 * i) = x ∧ (b = 0 ∨ R (37 + 5 * i) < R (37 + 5 * (b - 1))) then i + 1 else b) ≤ i + 1 := by
      split <;> omega
    have h3 := ih (i + 1) _ h2
    omega
theorem fstS_le (R : Rw) (x : Nat) : fstS R x ≤ R 6 := by
  have h := fstM_le R x (R 6) 0 0 (Nat.le_refl _)
  unfold fstS
  omega
/-- who is found is so -/
theorem fstM_is (R : Rw) (x : Nat) : ∀ m i b, (b = 0 ∨ R (36 + 5 * (b - 1)) = x) → (fstM R x i m b = 0 ∨ R (36 + 5 * (fstM R x i m b - 1)) = x) := by
  intro m
  induction m with
  | zero => intro i b h; exact h
  | succ m ih =>
    intro i b h
    show (fstM R x (i + 1) m _ = 0 ∨ R (36 + 5 * (fstM R x (i + 1) m _ - 1)) = x)
    apply ih
    split
    · rename_i hc
      right
      rw [show i + 1 - 1 = i by omega]
      exact hc.1
    · exact h
theorem lrnN_lt (a b : Nat) : ∀ k s m w, s < 512 → w + k ≤ 9 → lrnN a b k s m w < 512 := by
  intro k
  induction k with
  | zero => intro s m w h _; exact h
  | succ k ih =>
    intro s m w h hw
    show (if m = 0 then s else if bit a w = 1 ∧ bit b w = 0 then lrnN a b k (s ||| 2 ^ w) (m - 1) (w + 1) else lrnN a b k s m (w + 1)) < 512
    split
    · exact h
    · split
      · refine ih _ _ _ ?_ (by omega)
        have h1 : 2 ^ w < 2 ^ 9 := Nat.pow_lt_pow_right (by decide) (by omega)
        exact Nat.or_lt_two_pow (n := 9) h h1
      · exact ih _ _ _ h (by omega)
theorem lrn_lt (a b m : Nat) : lrn a b m < 512 := lrnN_lt a b 9 0 m 0 (by decide) (by decide)
