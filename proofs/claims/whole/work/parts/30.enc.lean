-- ===== numbers =====
theorem n_lt {a b : Nat} (ha : a < 2147483648) (hb : b < 2147483648) : (nI a < nI b) = (a < b) := propext (nI_ltI ha hb)
theorem n_le {a b : Nat} (ha : a < 2147483648) (hb : b < 2147483648) : (nI a ≤ nI b) = (a ≤ b) := propext (nI_leI ha hb)
theorem n_eq {a b : Nat} (ha : a < 2147483648) (hb : b < 2147483648) : (nI a = nI b) = (a = b) := propext (nI_eq ha hb)
theorem n_cl {a : Nat} (ha : a < 2147483648) : (nI a).toNatClampNeg = a := nI_clamp ha
theorem n_inb {a n : Nat} (ha : a < 2147483648) (h : a < n) : inb (nI a) n = true := by
  rw [inb_iff, nI_toInt ha]
  omega
theorem n_0 : (0 : Int32) = nI 0 := rfl
theorem n_1 : (1 : Int32) = nI 1 := rfl
theorem n_2 : (2 : Int32) = nI 2 := rfl
theorem n_3 : (3 : Int32) = nI 3 := rfl
theorem n_4 : (4 : Int32) = nI 4 := rfl
theorem n_5 : (5 : Int32) = nI 5 := rfl
theorem n_6 : (6 : Int32) = nI 6 := rfl
theorem n_7 : (7 : Int32) = nI 7 := rfl
theorem n_8 : (8 : Int32) = nI 8 := rfl
theorem n_9 : (9 : Int32) = nI 9 := rfl
theorem n_10 : (10 : Int32) = nI 10 := rfl
theorem n_12 : (12 : Int32) = nI 12 := rfl
theorem n_13 : (13 : Int32) = nI 13 := rfl
theorem n_20 : (20 : Int32) = nI 20 := rfl
theorem n_27 : (27 : Int32) = nI 27 := rfl
theorem n_28 : (28 : Int32) = nI 28 := rfl
theorem n_35 : (35 : Int32) = nI 35 := rfl
theorem n_40 : (40 : Int32) = nI 40 := rfl
theorem n_60 : (60 : Int32) = nI 60 := rfl
theorem n_75 : (75 : Int32) = nI 75 := rfl
theorem n_100 : (100 : Int32) = nI 100 := rfl
theorem n_120 : (120 : Int32) = nI 120 := rfl
theorem n_200 : (200 : Int32) = nI 200 := rfl
theorem n_511 : (511 : Int32) = nI 511 := rfl
theorem n_999 : (999 : Int32) = nI 999 := rfl
theorem n_9999 : (9999 : Int32) = nI 9999 := rfl
theorem n_neg1 (a : Nat) : (nI a < 0) = (nI a < nI 0) := rfl
theorem n_m1lt : ((-1 : Int32) < 0) = True := by simp
theorem n_m1nle : ((0 : Int32) ≤ -1) = False := by simp
theorem n_m1nat {a : Nat} (ha : a < 2147483648) : ((-1 : Int32) = nI a) = False := by
  apply propext
  constructor
  · intro h
    have h1 := congrArg Int32.toInt h
    rw [nI_toInt ha] at h1
    have h2 : (-1 : Int32).toInt = -1 := rfl
    omega
  · exact False.elim
theorem n_natm1 {a : Nat} (ha : a < 2147483648) : (nI a = (-1 : Int32)) = False := by
  rw [show (nI a = (-1 : Int32)) = ((-1 : Int32) = nI a) from propext eq_comm, n_m1nat ha]
theorem n_nlt0 {a : Nat} (ha : a < 2147483648) : (nI a < 0) = False := by
  rw [n_neg1, n_lt ha (by decide)]
  simp
theorem n_le0 {a : Nat} (ha : a < 2147483648) : (0 ≤ nI a) = True := by
  rw [n_0, n_le (by decide) ha]
  simp
theorem n_sub {a b : Nat} (h : b ≤ a) : nI a - nI b = nI (a - b) := pk_sub h
theorem n_mul (a b : Nat) : nI a * nI b = nI (a * b) := pk_mul a b
theorem n_add (a b : Nat) : nI a + nI b = nI (a + b) := nI_add a b
theorem n_div {a d : Nat} (ha : a < 2147483648) (h0 : 0 < d) (hd : d < 2147483648) : nI a / nI d = nI (a / d) := pk_div ha h0 hd
theorem n_rem {a d : Nat} (ha : a < 2147483648) (h0 : 0 < d) (hd : d < 2147483648) : nI a - nI a / nI d * nI d = nI (a % d) := pk_rem ha h0 hd
-- ===== the words of the pure functions, opened =====
theorem letb_eq {α β : Type} (a : α) (k : α → Option β) : letb a k = k a := rfl
theorem grd_t {β : Type} (k : Option β) : grd true k = k := rfl
theorem grd_if {β : Type} {b : Bool} (h : b = true) (k : Option β) : grd b k = k := by rw [h]; rfl
theorem bind2_eq {α β γ : Type} (a : α) (b : β) (k : α → β → Option γ) : bind2 (some (a, b)) k = k a b := rfl
theorem bind3_eq {α β δ γ : Type} (a : α) (b : β) (d : δ) (k : α → β → δ → Option γ) : bind3 (some (a, b, d)) k = k a b d := rfl
theorem bind_eq {α β : Type} (a : α) (k : α → Option β) : (some a).bind k = k a := rfl
theorem st2_eq {α : Type} (L : Nat → Nat → α) (a : Nat) (f : Nat → α) : st2 L a f a = f := if_pos rfl
theorem st2_ne {α : Type} (L : Nat → Nat → α) {a b : Nat} (f : Nat → α) (h : b ≠ a) : st2 L a f b = L b := if_neg h
theorem st2_st2 {α : Type} (L : Nat → Nat → α) (a : Nat) (f h : Nat → α) : st2 (st2 L a f) a h = st2 L a h := by
  funext b
  unfold st2
  split <;> rfl
theorem st2_comm {α : Type} (L : Nat → Nat → α) {a b : Nat} (hab : a ≠ b) (f h : Nat → α) : st2 (st2 L a f) b h = st2 (st2 L b h) a f := by
  funext c
  unfold st2
  split
  · rename_i h1
    rw [if_neg (by omega)]
  · rfl
theorem upd_eq (f : M1) (k : Nat) (x : Int32) : upd f k x k = x := pk_us
theorem upd_ne (f : M1) {k j : Nat} (x : Int32) (h : j ≠ k) : upd f k x j = f j := pk_un h
theorem upd_upd (f : M1) (k : Nat) (x y : Int32) : upd (upd f k x) k y = upd f k y := by
  funext j
  by_cases h : j = k
  · rw [h, upd_eq, upd_eq]
  · rw [upd_ne _ _ h, upd_ne _ _ h, upd_ne _ _ h]
theorem upd_comm (f : M1) {k j : Nat} (h : k ≠ j) (x y : Int32) : upd (upd f k x) j y = upd (upd f j y) k x := by
  funext i
  by_cases h1 : i = j
  · rw [h1, upd_eq, upd_ne _ _ (Ne.symm h), upd_eq]
  · rw [upd_ne _ _ h1]
    by_cases h2 : i = k
    · rw [h2, upd_eq, upd_eq]
    · rw [upd_ne _ _ h2, upd_ne _ _ h2, upd_ne _ _ h1]
theorem upd_same (f : M1) (k : Nat) : upd f k (f k) = f := by
  funext j
  by_cases h : j = k
  · rw [h, upd_eq]
  · rw [upd_ne _ _ h]
-- ===== the light as a row of naturals =====
abbrev Rw : Type := Nat → Nat
def wr (R : Rw) (j v : Nat) : Rw := fun i => if i = j then v else R i
theorem wr_eq (R : Rw) (j v : Nat) : wr R j v j = v := if_pos rfl
theorem wr_ne (R : Rw) {j i : Nat} (v : Nat) (h : i ≠ j) : wr R j v i = R i := if_neg h
theorem wr_same (R : Rw) (j : Nat) : wr R j (R j) = R := by
  funext i
  unfold wr
  split
  · rename_i h; rw [h]
  · rfl
theorem wr_wr (R : Rw) (j v w : Nat) : wr (wr R j v) j w = wr R j w := by
  funext i
  unfold wr
  split <;> rfl
theorem wr_comm (R : Rw) {j k : Nat} (h : j ≠ k) (v w : Nat) : wr (wr R j v) k w = wr (wr R k w) j v := by
  funext i
  unfold wr
  by_cases h1 : i = k
  · rw [if_pos h1, if_neg (by omega), if_pos h1]
  · rw [if_neg h1, if_neg h1]
def encG (R : Rw) : M1 := fun j => if j < 75 then nI (R j) else 0
def encL (R : Rw) (u d : Int32) : M2 := fun a i => if a = 0 then (if i < 7 then nI (R i) else if i = 7 then u else if i = 8 then d else 0) else if a = 1 then (if i < 28 then nI (R (7 + i)) else 0) else if a < 7 then (if i < 8 then nI (R (35 + 5 * i + (a - 2))) else 0) else 0
theorem encG_at {R : Rw} {j : Nat} (h : j < 75) : encG R j = nI (R j) := if_pos h
theorem encG_st {R : Rw} {j v : Nat} (h : j < 75) : upd (encG R) j (nI v) = encG (wr R j v) := by
  funext i
  by_cases h1 : i = j
  · rw [h1, upd_eq, encG_at h, wr_eq]
  · rw [upd_ne _ _ h1]
    unfold encG
    rw [wr_ne _ _ h1]
theorem encL_0 {R : Rw} {u d : Int32} {i : Nat} (h : i < 7) : encL R u d 0 i = nI (R i) := by
  unfold encL
  rw [if_pos rfl, if_pos h]
theorem encL_7 {R : Rw} {u d : Int32} : encL R u d 0 7 = u := rfl
theorem encL_8 {R : Rw} {u d : Int32} : encL R u d 0 8 = d := rfl
theorem encL_1 {R : Rw} {u d : Int32} {i : Nat} (h : i < 28) : encL R u d 1 i = nI (R (7 + i)) := by
  unfold encL
  rw [if_neg (by omega), if_pos rfl, if_pos h]
theorem encL_a {R : Rw} {u d : Int32} {a i : Nat} (ha : 2 ≤ a) (ha2 : a < 7) (h : i < 8) : encL R u d a i = nI (R (35 + 5 * i + (a - 2))) := by
  unfold encL
  rw [if_neg (by omega), if_neg (by omega), if_pos ha2, if_pos h]
theorem encL_2 {R : Rw} {u d : Int32} {i : Nat} (h : i < 8) : encL R u d 2 i = nI (R (35 + 5 * i)) := encL_a (by decide) (by decide) h
theorem encL_3 {R : Rw} {u d : Int32} {i : Nat} (h : i < 8) : encL R u d 3 i = nI (R (36 + 5 * i)) := by
  rw [encL_a (by decide) (by decide) h]
  congr 2
  omega
theorem encL_4 {R : Rw} {u d : Int32} {i : Nat} (h : i < 8) : encL R u d 4 i = nI (R (37 + 5 * i)) := by
  rw [encL_a (by decide) (by decide) h]
  congr 2
  omega
theorem encL_5 {R : Rw} {u d : Int32} {i : Nat} (h : i < 8) : encL R u d 5 i = nI (R (38 + 5 * i)) := by
  rw [encL_a (by decide) (by decide) h]
  congr 2
  omega
theorem encL_6 {R : Rw} {u d : Int32} {i : Nat} (h : i < 8) : encL R u d 6 i = nI (R (39 + 5 * i)) := by
  rw [encL_a (by decide) (by decide) h]
  congr 2
  omega
theorem encL_r0 {R : Rw} {u d : Int32} : encL R u d 0 = fun i => if i < 7 then nI (R i) else if i = 7 then u else if i = 8 then d else 0 := rfl
theorem encL_r1 {R : Rw} {u d : Int32} : encL R u d 1 = fun i => if i < 28 then nI (R (7 + i)) else 0 := rfl
theorem encL_rk {R : Rw} {u d : Int32} {b : Nat} (hb : 2 ≤ b) (hb2 : b < 7) : encL R u d b = fun i => if i < 8 then nI (R (35 + 5 * i + (b - 2))) else 0 := by
  funext i
  unfold encL
  rw [if_neg (by omega : ¬ b = 0), if_neg (by omega : ¬ b = 1), if_pos hb2]
theorem encL_rb {R : Rw} {u d : Int32} {b : Nat} (hb : 7 ≤ b) : encL R u d b = fun _ => 0 := by
  funext i
  unfold encL
  rw [if_neg (by omega : ¬ b = 0), if_neg (by omega : ¬ b = 1), if_neg (by omega : ¬ b < 7)]
theorem encL_ext {R S : Rw} {u d x y : Int32} {a : Nat} (h0 : a = 0 → (∀ j, j < 7 → R j = S j) ∧ u = x ∧ d = y) (h1 : a = 1 → ∀ j, j < 28 → R (7 + j) = S (7 + j)) (h2 : 2 ≤ a → a < 7 → ∀ j, j < 8 → R (35 + 5 * j + (a - 2)) = S (35 + 5 * j + (a - 2))) : encL R u d a = encL S x y a := by
  rcases (show a = 0 ∨ a = 1 ∨ (2 ≤ a ∧ a < 7) ∨ 7 ≤ a by omega) with h | h | h | h
  · obtain ⟨e1, e2, e3⟩ := h0 h
    subst h; subst e2; subst e3
    rw [encL_r0, encL_r0]
    funext j
    show (if j < 7 then nI (R j) else if j = 7 then u else if j = 8 then d else 0) = (if j < 7 then nI (S j) else if j = 7 then u else if j = 8 then d else 0)
    by_cases hj : j < 7
    · rw [if_pos hj, if_pos hj, e1 j hj]
    · rw [if_neg hj, if_neg hj]
  · have e1 := h1 h
    subst h
    rw [encL_r1, encL_r1]
    funext j
    show (if j < 28 then nI (R (7 + j)) else 0) = (if j < 28 then nI (S (7 + j)) else 0)
    by_cases hj : j < 28
    · rw [if_pos hj, if_pos hj, e1 j hj]
    · rw [if_neg hj, if_neg hj]
  · have e1 := h2 h.1 h.2
    rw [encL_rk h.1 h.2, encL_rk h.1 h.2]
    funext j
    show (if j < 8 then nI (R (35 + 5 * j + (a - 2))) else 0) = (if j < 8 then nI (S (35 + 5 * j + (a - 2))) else 0)
    by_cases hj : j < 8
    · rw [if_pos hj, if_pos hj, e1 j hj]
    · rw [if_neg hj, if_neg hj]
  · rw [encL_rb h, encL_rb h]
theorem encL_s0 {R : Rw} {u d : Int32} {i v : Nat} (h : i < 7) : st2 (encL R u d) 0 (upd (encL R u d 0) i (nI v)) = encL (wr R i v) u d := by
  funext a
  by_cases ha : a = 0
  · subst ha
    rw [st2_eq]
    funext j
    by_cases hj : j = i
    · rw [hj, upd_eq, encL_0 h, wr_eq]
    · rw [upd_ne _ _ hj, encL_r0, encL_r0]
      show (if j < 7 then nI (R j) else if j = 7 then u else if j = 8 then d else 0) = (if j < 7 then nI (wr R i v j) else if j = 7 then u else if j = 8 then d else 0)
      rw [wr_ne _ _ hj]
  · rw [st2_ne _ _ ha]
    exact encL_ext (fun q => absurd q ha) (fun _ j hj => (wr_ne _ _ (by omega)).symm) (fun _ _ j hj => (wr_ne _ _ (by omega)).symm)
theorem encL_s7 {R : Rw} {u d x : Int32} : st2 (encL R u d) 0 (upd (encL R u d 0) 7 x) = encL R x d := by
  funext a
  by_cases ha : a = 0
  · subst ha
    rw [st2_eq]
    funext j
    by_cases hj : j = 7
    · rw [hj, upd_eq, encL_7]
    · rw [upd_ne _ _ hj, encL_r0, encL_r0]
      show (if j < 7 then nI (R j) else if j = 7 then u else if j = 8 then d else 0) = (if j < 7 then nI (R j) else if j = 7 then x else if j = 8 then d else 0)
      rw [if_neg hj, if_neg hj]
  · rw [st2_ne _ _ ha]
    exact encL_ext (fun q => absurd q ha) (fun _ j hj => rfl) (fun _ _ j hj => rfl)
theorem encL_s8 {R : Rw} {u d x : Int32} : st2 (encL R u d) 0 (upd (encL R u d 0) 8 x) = encL R u x := by
  funext a
  by_cases ha : a = 0
  · subst ha
    rw [st2_eq]
    funext j
    by_cases hj : j = 8
    · rw [hj, upd_eq, encL_8]
    · rw [upd_ne _ _ hj, encL_r0, encL_r0]
      show (if j < 7 then nI (R j) else if j = 7 then u else if j = 8 then d else 0) = (if j < 7 then nI (R j) else if j = 7 then u else if j = 8 then x else 0)
      rw [if_neg hj, if_neg hj]
  · rw [st2_ne _ _ ha]
    exact encL_ext (fun q => absurd q ha) (fun _ j hj => rfl) (fun _ _ j hj => rfl)
theorem encL_s1 {R : Rw} {u d : Int32} {i v : Nat} (h : i < 28) : st2 (encL R u d) 1 (upd (encL R u d 1) i (nI v)) = encL (wr R (7 + i) v) u d := by
  funext a
  by_cases ha : a = 1
  · subst ha
    rw [st2_eq]
    funext j
    by_cases hj : j = i
    · rw [hj, upd_eq, encL_1 h, wr_eq]
    · rw [upd_ne _ _ hj, encL_r1, encL_r1]
      show (if j < 28 then nI (R (7 + j)) else 0) = (if j < 28 then nI (wr R (7 + i) v (7 + j)) else 0)
      rw [wr_ne _ _ (by omega)]
  · rw [st2_ne _ _ ha]
    exact encL_ext (fun _ => ⟨fun j hj => (wr_ne _ _ (by omega)).symm, rfl, rfl⟩) (fun q => absurd q ha) (fun _ _ j hj => (wr_ne _ _ (by omega)).symm)
theorem encL_sa {R : Rw} {u d : Int32} {b i v : Nat} (hb : 2 ≤ b) (hb2 : b < 7) (h : i < 8) : st2 (encL R u d) b (upd (encL R u d b) i (nI v)) = encL (wr R (35 + 5 * i + (b - 2)) v) u d := by
  funext a
  by_cases ha : a = b
  · subst ha
    rw [st2_eq]
    funext j
    by_cases hj : j = i
    · rw [hj, upd_eq, encL_a hb hb2 h, wr_eq]
    · rw [upd_ne _ _ hj, encL_rk hb hb2, encL_rk hb hb2]
      show (if j < 8 then nI (R (35 + 5 * j + (a - 2))) else 0) = (if j < 8 then nI (wr R (35 + 5 * i + (a - 2)) v (35 + 5 * j + (a - 2))) else 0)
      rw [wr_ne _ _ (by omega)]
  · rw [st2_ne _ _ ha]
    exact encL_ext (fun _ => ⟨fun j hj => (wr_ne _ _ (by omega)).symm, rfl, rfl⟩) (fun _ j hj => (wr_ne _ _ (by omega)).symm) (fun _ _ j hj => (wr_ne _ _ (by omega)).symm)
theorem encL_s2 {R : Rw} {u d : Int32} {i v : Nat} (h : i < 8) : st2 (encL R u d) 2 (upd (encL R u d 2) i (nI v)) = encL (wr R (35 + 5 * i) v) u d := encL_sa (by decide) (by decide) h
theorem encL_s3 {R : Rw} {u d : Int32} {i v : Nat} (h : i < 8) : st2 (encL R u d) 3 (upd (encL R u d 3) i (nI v)) = encL (wr R (36 + 5 * i) v) u d := by
  rw [encL_sa (by decide) (by decide) h, show 35 + 5 * i + (3 - 2) = 36 + 5 * i by omega]
theorem encL_s4 {R : Rw} {u d : Int32} {i v : Nat} (h : i < 8) : st2 (encL R u d) 4 (upd (encL R u d 4) i (nI v)) = encL (wr R (37 + 5 * i) v) u d := by
  rw [encL_sa (by decide) (by decide) h, show 35 + 5 * i + (4 - 2) = 37 + 5 * i by omega]
theorem encL_s5 {R : Rw} {u d : Int32} {i v : Nat} (h : i < 8) : st2 (encL R u d) 5 (upd (encL R u d 5) i (nI v)) = encL (wr R (38 + 5 * i) v) u d := by
  rw [encL_sa (by decide) (by decide) h, show 35 + 5 * i + (5 - 2) = 38 + 5 * i by omega]
theorem encL_s6 {R : Rw} {u d : Int32} {i v : Nat} (h : i < 8) : st2 (encL R u d) 6 (upd (encL R u d 6) i (nI v)) = encL (wr R (39 + 5 * i) v) u d := by
  rw [encL_sa (by decide) (by decide) h, show 35 + 5 * i + (6 - 2) = 39 + 5 * i by omega]
-- what the numbers of a light may be; D: the latest day
def bnd (D j : Nat) : Nat := if j = 0 then D else if j = 1 then 12 else if j = 2 then 9999 else if j = 3 then 3 else if j = 4 then 2 else if j = 5 then 9999 else if j = 6 then 8 else if j < 35 then 12 else if (j - 35) % 5 = 0 then 5 else if (j - 35) % 5 = 1 then 1 else if (j - 35) % 5 = 2 then D + 1 else if (j - 35) % 5 = 3 then 511 else 9999
def Inv (D : Nat) (R : Rw) : Prop := (∀ j, j < 75 → R j ≤ bnd D j) ∧ 1 ≤ R 3 ∧ D < 100000
theorem bnd_lt (D j : Nat) (h : D < 100000) : bnd D j < 100002 := by
  unfold bnd
  (repeat' split) <;> omega
theorem Inv.lt {D : Nat} {R : Rw} (h : Inv D R) {j : Nat} (hj : j < 75) : R j < 100002 := Nat.lt_of_le_of_lt (h.1 j hj) (bnd_lt D j h.2.2)
theorem Inv.day {D : Nat} {R : Rw} (h : Inv D R) : R 0 ≤ D := h.1 0 (by decide)
theorem Inv.rock {D : Nat} {R : Rw} (h : Inv D R) : R 1 ≤ 12 := h.1 1 (by decide)
theorem Inv.oil {D : Nat} {R : Rw} (h : Inv D R) : R 2 ≤ 9999 := h.1 2 (by decide)
theorem Inv.beds {D : Nat} {R : Rw} (h : Inv D R) : R 3 ≤ 3 := h.1 3 (by decide)
theorem Inv.gales {D : Nat} {R : Rw} (h : Inv D R) : R 4 ≤ 2 := h.1 4 (by decide)
theorem Inv.dark {D : Nat} {R : Rw} (h : Inv D R) : R 5 ≤ 9999 := h.1 5 (by decide)
theorem Inv.many {D : Nat} {R : Rw} (h : Inv D R) : R 6 ≤ 8 := h.1 6 (by decide)
theorem Inv.sea {D : Nat} {R : Rw} (h : Inv D R) {i : Nat} (hi : i < 28) : R (7 + i) ≤ 12 := by
  have h1 := h.1 (7 + i) (by omega)
  unfold bnd at h1
  rwa [if_neg (by omega), if_neg (by omega), if_neg (by omega), if_neg (by omega), if_neg (by omega), if_neg (by omega), if_neg (by omega), if_pos (by omega)] at h1
theorem bnd_k {D k w : Nat} (hw : w < 5) : bnd D (35 + 5 * k + w) = if w = 0 then 5 else if w = 1 then 1 else if w = 2 then D + 1 else if w = 3 then 511 else 9999 := by
  unfold bnd
  rw [if_neg (by omega), if_neg (by omega), if_neg (by omega), if_neg (by omega), if_neg (by omega), if_neg (by omega), if_neg (by omega), if_neg (by omega)]
  have e : (35 + 5 * k + w - 35) % 5 = w := by omega
  rw [e]
theorem Inv.kind {D : Nat} {R : Rw} (h : Inv D R) {k : Nat} (hk : k < 8) : R (35 + 5 * k) ≤ 5 := by
  have h1 := h.1 (35 + 5 * k + 0) (by omega)
  rw [bnd_k (by decide)] at h1
  exact h1
theorem Inv.on {D : Nat} {R : Rw} (h : Inv D R) {k : Nat} (hk : k < 8) : R (36 + 5 * k) ≤ 1 := by
  have h1 := h.1 (35 + 5 * k + 1) (by omega)
  rw [bnd_k (by decide), show 35 + 5 * k + 1 = 36 + 5 * k by omega] at h1
  exact h1
theorem Inv.since {D : Nat} {R : Rw} (h : Inv D R) {k : Nat} (hk : k < 8) : R (37 + 5 * k) ≤ D + 1 := by
  have h1 := h.1 (35 + 5 * k + 2) (by omega)
  rw [bnd_k (by decide), show 35 + 5 * k + 2 = 37 + 5 * k by omega] at h1
  exact h1
theorem Inv.words {D : Nat} {R : Rw} (h : Inv D R) {k : Nat} (hk : k < 8) : R (38 + 5 * k) ≤ 511 := by
  have h1 := h.1 (35 + 5 * k + 3) (by omega)
  rw [bnd_k (by decide), show 35 + 5 * k + 3 = 38 + 5 * k by omega] at h1
  exact h1
theorem Inv.met {D : Nat} {R : Rw} (h : Inv D R) {k : Nat} (hk : k < 8) : R (39 + 5 * k) ≤ 9999 := by
  have h1 := h.1 (35 + 5 * k + 4) (by omega)
  rw [bnd_k (by decide), show 35 + 5 * k + 4 = 39 + 5 * k by omega] at h1
  exact h1
theorem Inv.set {D : Nat} {R : Rw} (h : Inv D R) {j v : Nat} (hv : v ≤ bnd D j) (h3 : j = 3 → 1 ≤ v) : Inv D (wr R j v) := by
  refine ⟨fun i hi => ?_, ?_, h.2.2⟩
  · unfold wr
    split
    · rename_i e; rw [e]; exact hv
    · exact h.1 i hi
  · unfold wr
    split
    · rename_i e; exact h3 e.symm
    · exact h.2.1
theorem bnd_mono {D E : Nat} (h : D ≤ E) (j : Nat) : bnd D j ≤ bnd E j := by
  unfold bnd
  by_cases h0 : j = 0
  · rw [if_pos h0, if_pos h0]; exact h
  · rw [if_neg h0, if_neg h0]
    by_cases h1 : j = 1
    · rw [if_pos h1, if_pos h1]; exact Nat.le_refl _
    · rw [if_neg h1, if_neg h1]
      by_cases h2 : j = 2
      · rw [if_pos h2, if_pos h2]; exact Nat.le_refl _
      · rw [if_neg h2, if_neg h2]
        by_cases h3 : j = 3
        · rw [if_pos h3, if_pos h3]; exact Nat.le_refl _
        · rw [if_neg h3, if_neg h3]
          by_cases h4 : j = 4
          · rw [if_pos h4, if_pos h4]; exact Nat.le_refl _
          · rw [if_neg h4, if_neg h4]
            by_cases h5 : j = 5
            · rw [if_pos h5, if_pos h5]; exact Nat.le_refl _
            · rw [if_neg h5, if_neg h5]
              by_cases h6 : j = 6
              · rw [if_pos h6, if_pos h6]; exact Nat.le_refl _
              · rw [if_neg h6, if_neg h6]
                by_cases h7 : j < 35
                · rw [if_pos h7, if_pos h7]; exact Nat.le_refl _
                · rw [if_neg h7, if_neg h7]
                  by_cases h8 : (j - 35) % 5 = 0
                  · rw [if_pos h8, if_pos h8]; exact Nat.le_refl _
                  · rw [if_neg h8, if_neg h8]
                    by_cases h9 : (j - 35) % 5 = 1
                    · rw [if_pos h9, if_pos h9]; exact Nat.le_refl _
                    · rw [if_neg h9, if_neg h9]
                      by_cases ha : (j - 35) % 5 = 2
                      · rw [if_pos ha, if_pos ha]; exact Nat.succ_le_succ h
                      · rw [if_neg ha, if_neg ha]; exact Nat.le_refl _
theorem Inv.mono {D E : Nat} {R : Rw} (h : Inv D R) (hDE : D ≤ E) (hE : E < 100000) : Inv E R := ⟨fun i hi => Nat.le_trans (h.1 i hi) (bnd_mono hDE i), h.2.1, hE⟩
