def cap (x : Nat) : Nat := if x < 9999 then x else 9999
theorem cap_le (x : Nat) : cap x ≤ 9999 := by unfold cap; split <;> omega
theorem capI {a : Nat} (ha : a < 2147483648) : (if nI a < nI 9999 then nI a else nI 9999) = nI (cap a) := by
  unfold cap
  by_cases h : a < 9999
  · rw [if_pos (i_lt ha (by decide) h), if_pos h]
  · rw [if_neg (i_nlt ha (by decide) (by omega)), if_neg h]
theorem g_inb {β : Type} {a n : Nat} (h : a < n) (hn : n < 1000) (k : Option β) : grd (inb (nI a) n) k = k := grd_if (n_inb (by omega) h) k
-- ===== a meeting, a relief, a day =====
def metS (R : Rw) (s up o : Nat) : Rw :=
  wr (wr (wr (wr R (38 + 5 * o) (R (38 + 5 * o) ||| lrn (R (38 + 5 * up)) (R (38 + 5 * o)) (teS (R (35 + 5 * up)) s))) (38 + 5 * up) (R (38 + 5 * up) ||| lrn (R (38 + 5 * o)) (R (38 + 5 * up)) (teS (R (35 + 5 * o)) s))) (39 + 5 * up) (cap (R (39 + 5 * up) + 1))) (39 + 5 * o) (cap (R (39 + 5 * o) + 1))
def oilS (R : Rw) (s up : Nat) : Rw := wr R 2 (cap (R 2 + brS (R (35 + 5 * up)) s))
def upS (R : Rw) (t up : Nat) : Rw := wr (wr R (36 + 5 * up) 1) (37 + 5 * up) t
def dnS (R : Rw) (t o : Nat) : Rw := wr (wr R (36 + 5 * o) 0) (37 + 5 * o) t
def relS (R : Rw) (s up b : Nat) : Rw := if b = 0 then upS (oilS R s up) (R 0 + 1) up else upS (dnS (metS (oilS R s up) s up (b - 1)) (R 0 + 1) (b - 1)) (R 0 + 1) up
/-- who goes, by the beds -/
def outS (R : Rw) : Nat := if cntS R 1 < R 3 then 0 else fstS R 1
def burnS (R : Rw) (need : Nat) : Rw := if need ≤ R 2 then wr R 2 (R 2 - need) else wr (wr R 5 (cap (R 5 + 1))) 2 0
/-- a day: the row behind it, who came (0: none), who went -/
def galeS (R : Rw) (s : Nat) : Rw × Nat × Nat :=
  if R 4 + 1 < 3 then (wr R 4 (R 4 + 1), 0, 0)
  else if fstS R 0 = 0 then (wr R 4 2, 0, 0)
  else (relS (wr R 4 0) s (fstS R 0 - 1) (outS R), fstS R 0, outS R)
def dayS (R : Rw) : Rw × Nat × Nat :=
  if secS R (R 0) = 0 then (wr (burnS R (usAll R)) 0 (R 0 + 1), 0, 0)
  else (wr (galeS (burnS R (usAll R)) (secS R (R 0))).1 0 (R 0 + 1), (galeS (burnS R (usAll R)) (secS R (R 0))).2)
-- what a store ahead of the keepers leaves
theorem bro_wr (R : Rw) {j : Nat} (v : Nat) (hj : j < 35) (k o : Nat) : broS (wr R j v) k o = broS R k o := by
  unfold broS
  rw [wr_ne _ _ (by omega), wr_ne _ _ (by omega)]
theorem fstM_wr (R : Rw) {j : Nat} (v x : Nat) (hj : j < 35) : ∀ m i b, fstM (wr R j v) x i m b = fstM R x i m b := by
  intro m
  induction m with
  | zero => intro i b; rfl
  | succ m ih =>
    intro i b
    show fstM (wr R j v) x (i + 1) m _ = fstM R x (i + 1) m _
    rw [ih, wr_ne _ _ (by omega), wr_ne _ _ (by omega), wr_ne _ _ (by omega)]
theorem fstS_wr (R : Rw) {j : Nat} (v x : Nat) (hj : j < 35) (h6 : j ≠ 6) : fstS (wr R j v) x = fstS R x := by
  unfold fstS
  rw [fstM_wr _ _ _ hj, wr_ne _ _ (Ne.symm h6)]
theorem cntS_wr (R : Rw) {j : Nat} (v x : Nat) (hj : j < 35) (h6 : j ≠ 6) : cntS (wr R j v) x = cntS R x := by
  unfold cntS
  rw [wr_ne _ _ (Ne.symm h6)]
  apply sumM_cong
  intro k _ _
  rw [wr_ne _ _ (by omega)]
theorem besS_wr (R : Rw) {j : Nat} (v k : Nat) (hj : j < 35) (h6 : j ≠ 6) : besS (wr R j v) k = besS R k := by
  unfold besS
  rw [wr_ne _ _ (Ne.symm h6)]
  exact anyM_cong _ _ (fun o _ _ => bro_wr R v hj k o)
theorem usS_wr (R : Rw) {j : Nat} (v k : Nat) (hj : j < 35) (h6 : j ≠ 6) : usS (wr R j v) k = usS R k := by
  unfold usS
  rw [besS_wr R v k hj h6, wr_ne _ _ (by omega)]
theorem usAll_wr (R : Rw) {j : Nat} (v : Nat) (hj : j < 35) (h6 : j ≠ 6) : usAll (wr R j v) = usAll R := by
  unfold usAll
  rw [wr_ne _ _ (Ne.symm h6)]
  apply sumM_cong
  intro k _ _
  rw [wr_ne _ _ (by omega), usS_wr R v k hj h6]
theorem outS_wr (R : Rw) {j : Nat} (v : Nat) (hj : j < 35) (h6 : j ≠ 6) (h3 : j ≠ 3) : outS (wr R j v) = outS R := by
  unfold outS
  rw [cntS_wr R v 1 hj h6, fstS_wr R v 1 hj h6, wr_ne _ _ (Ne.symm h3)]
section CD
variable {D : Nat} {R : Rw} {u d : Int32}
theorem c_least_lp {a b : Nat} (ha : a < 512) (hb : b < 512) : ∀ k s m w fuel, w + k = 9 → k < fuel → m < 1000 → fX1_leastOf_c7 fuel (nI a &&& (nI b ^^^ (-1 : Int32))) (nI s) (nI m) (nI w) = some (nI (lrnN a b k s m w)) := by
  intro k
  induction k with
  | zero =>
    intro s m w fuel hw hf hm
    cases fuel with
    | zero => omega
    | succ n => rw [fX1_leastOf_c7, if_pos (show (9 : Int32) ≤ nI w from i_le (a := 9) (by decide) (by omega) (by omega))]; rfl
  | succ k ih =>
    intro s m w fuel hw hf hm
    cases fuel with
    | zero => omega
    | succ n =>
      rw [fX1_leastOf_c7, if_neg (show ¬ (9 : Int32) ≤ nI w from i_nle (a := 9) (by decide) (by omega) (by omega))]
      show _ = some (nI (if m = 0 then s else if bit a w = 1 ∧ bit b w = 0 then lrnN a b k (s ||| 2 ^ w) (m - 1) (w + 1) else lrnN a b k s m (w + 1)))
      by_cases h0 : m = 0
      · subst h0
        rw [if_pos (show nI 0 ≤ 0 from by decide), if_pos rfl]; rfl
      · rw [if_neg (show ¬ nI m ≤ 0 from i_nle (b := 0) (by omega) (by decide) (by omega)), if_neg h0]
        by_cases hc : bit a w = 1 ∧ bit b w = 0
        · rw [if_pos (by rw [bit_andn (by omega) (by omega) (by omega)]; exact hc), if_pos hc, letb_eq, letb_eq, shl1 w (by omega), fa_or]
          unfold fX1_leastOf_c38
          rw [letb_eq, show nI w + (1 : Int32) = nI (w + 1) from n_add w 1]
          obtain ⟨q, rfl⟩ : ∃ q, m = q + 1 := ⟨m - 1, by omega⟩
          rw [pk_m1, Nat.add_sub_cancel]
          exact ih _ _ _ n (by omega) (by omega) (by omega)
        · rw [if_neg (by rw [bit_andn (by omega) (by omega) (by omega)]; exact hc), if_neg hc]
          unfold fX1_leastOf_c38
          rw [letb_eq, show nI w + (1 : Int32) = nI (w + 1) from n_add w 1]
          exact ih _ _ _ n (by omega) (by omega) (by omega)
theorem c_least {a b m : Nat} (ha : a < 512) (hb : b < 512) (hm : m < 1000) : fX1_leastOf (nI a &&& (nI b ^^^ (-1 : Int32))) (nI m) = some (nI (lrn a b m)) := by
  unfold fX1_leastOf lrn
  exact c_least_lp ha hb 9 0 m 0 FU (by omega) (by rw [FU_eq]; omega) hm
theorem c_leastN {a b m : Nat} (ha : a < 512) (hb : b < 512) (hm : m < 1000) : fX1_leastOf (nI a &&& (nI b ^^^ -nI 1)) (nI m) = some (nI (lrn a b m)) := c_least ha hb hm
theorem c_brings {kd s : Nat} (hk : kd ≤ 5) (hs : s < 100) : fX0_brings (nI kd) (nI s) = some (nI (brS kd s)) := by
  rcases (show kd = 0 ∨ kd = 1 ∨ kd = 2 ∨ kd = 3 ∨ kd = 4 ∨ kd = 5 by omega) with h | h | h | h | h | h <;> subst h
  · show some ((10 : Int32) * nI s) = some (nI (10 * s))
    rw [n_10, n_mul]
  · show some ((10 : Int32) * nI s) = some (nI (10 * s))
    rw [n_10, n_mul]
  · show some (((10 : Int32) * nI s) / (2 : Int32)) = some (nI (5 * s))
    rw [n_10, n_2, n_mul, n_div (by omega) (by decide) (by decide), show 10 * s / 2 = 5 * s by omega]
  · show some (((10 : Int32) * nI s) + (7 : Int32)) = some (nI (10 * s + 7))
    rw [n_10, n_7, n_mul, n_add]
  · show some ((10 : Int32) * nI s) = some (nI (10 * s))
    rw [n_10, n_mul]
  · show some ((((10 : Int32) * nI s) / (2 : Int32)) + (20 : Int32)) = some (nI (5 * s + 20))
    rw [n_10, n_2, n_20, n_mul, n_div (by omega) (by decide) (by decide), show 10 * s / 2 = 5 * s by omega, n_add]
theorem c_tells {kd s : Nat} (hk : kd ≤ 5) (h1 : 1 ≤ s) (hs : s < 100) : fX0_tells (nI kd) (nI s) = some (nI (teS kd s)) := by
  rcases (show kd = 0 ∨ kd = 1 ∨ kd = 2 ∨ kd = 3 ∨ kd = 4 ∨ kd = 5 by omega) with h | h | h | h | h | h <;> subst h
  · rfl
  · show some ((2 : Int32) * nI s) = some (nI (2 * s))
    rw [n_2, n_mul]
  · rfl
  · show some (nI s - (1 : Int32)) = some (nI (s - 1))
    rw [n_1, n_sub h1]
  · show some (((2 : Int32) * nI s) + (1 : Int32)) = some (nI (2 * s + 1))
    rw [n_2, n_1, n_mul, n_add]
  · show some ((1 : Int32) + (nI s / (3 : Int32))) = some (nI (1 + s / 3))
    rw [n_1, n_3, n_div (by omega) (by decide) (by decide), n_add]
theorem brS_le {kd s : Nat} (hs : s < 100) : brS kd s ≤ 1100 := by
  unfold brS
  (repeat' split) <;> omega
theorem teS_le {kd s : Nat} (hs : s < 100) : teS kd s ≤ 300 := by
  unfold teS
  (repeat' split) <;> omega
theorem c_meet (hI : Inv D R) {up o s : Nat} (hup : up < 8) (ho : o < 8) (hne : up ≠ o) (h1 : 1 ≤ s) (hs : s < 100) : fX1_meetInMidAir (nI up) (nI o) (nI s) (encL R u d) = some (encL (metS R s up o) (nI up) (nI o)) := by
  unfold fX1_meetInMidAir
  have a1 := hI.met hup
  have a2 := hI.met ho
  have a3 := hI.words hup
  have a4 := hI.words ho
  have a5 := hI.kind hup
  have a6 := hI.kind ho
  have b1 := teS_le (kd := R (35 + 5 * up)) hs
  have b2 := teS_le (kd := R (35 + 5 * o)) hs
  simp (disch := omega) only [n_1, n_9999, g_inb, n_cl, letb_eq, bind_eq, encL_6, encL_5, encL_2, n_add, capI, encL_s6, wr_ne, c_tells, c_leastN, fa_or, encL_s5, encL_s7, encL_s8]
  have e : wr (wr (wr (wr R (39 + 5 * up) (cap (R (39 + 5 * up) + 1))) (39 + 5 * o) (cap (R (39 + 5 * o) + 1))) (38 + 5 * up) (R (38 + 5 * up) ||| lrn (R (38 + 5 * o)) (R (38 + 5 * up)) (teS (R (35 + 5 * o)) s))) (38 + 5 * o) (R (38 + 5 * o) ||| lrn (R (38 + 5 * up)) (R (38 + 5 * o)) (teS (R (35 + 5 * up)) s)) = metS R s up o := by
    funext i
    unfold metS
    by_cases c1 : i = 38 + 5 * o
    · subst c1; simp (disch := omega) only [wr_eq, wr_ne]
    by_cases c2 : i = 38 + 5 * up
    · subst c2; simp (disch := omega) only [wr_eq, wr_ne]
    by_cases c3 : i = 39 + 5 * o
    · subst c3; simp (disch := omega) only [wr_eq, wr_ne]
    by_cases c4 : i = 39 + 5 * up
    · subst c4; simp (disch := omega) only [wr_eq, wr_ne]
    simp (disch := omega) only [wr_ne]
  rw [e]
theorem or_lt {a b : Nat} (ha : a < 512) (hb : b < 512) : a ||| b < 512 := Nat.or_lt_two_pow (n := 9) ha hb
theorem bnd_on (D k : Nat) : bnd D (36 + 5 * k) = 1 := by
  have h := bnd_k (D := D) (k := k) (w := 1) (by decide)
  rw [show 35 + 5 * k + 1 = 36 + 5 * k by omega] at h
  exact h
theorem bnd_since (D k : Nat) : bnd D (37 + 5 * k) = D + 1 := by
  have h := bnd_k (D := D) (k := k) (w := 2) (by decide)
  rw [show 35 + 5 * k + 2 = 37 + 5 * k by omega] at h
  exact h
theorem bnd_words (D k : Nat) : bnd D (38 + 5 * k) = 511 := by
  have h := bnd_k (D := D) (k := k) (w := 3) (by decide)
  rw [show 35 + 5 * k + 3 = 38 + 5 * k by omega] at h
  exact h
theorem bnd_met (D k : Nat) : bnd D (39 + 5 * k) = 9999 := by
  have h := bnd_k (D := D) (k := k) (w := 4) (by decide)
  rw [show 35 + 5 * k + 4 = 39 + 5 * k by omega] at h
  exact h
theorem bnd_kind (D k : Nat) : bnd D (35 + 5 * k) = 5 := bnd_k (D := D) (k := k) (w := 0) (by decide)
theorem metS_inv (hI : Inv D R) {up o s : Nat} (hup : up < 8) (ho : o < 8) : Inv D (metS R s up o) := by
  unfold metS
  have a3 := hI.words hup
  have a4 := hI.words ho
  refine Inv.set (Inv.set (Inv.set (Inv.set hI ?_ (by omega)) ?_ (by omega)) ?_ (by omega)) ?_ (by omega)
  · rw [bnd_words]
    have := or_lt (a := R (38 + 5 * o)) (by omega) (lrn_lt (R (38 + 5 * up)) (R (38 + 5 * o)) (teS (R (35 + 5 * up)) s))
    omega
  · rw [bnd_words]
    have := or_lt (a := R (38 + 5 * up)) (by omega) (lrn_lt (R (38 + 5 * o)) (R (38 + 5 * up)) (teS (R (35 + 5 * o)) s))
    omega
  · rw [bnd_met]; exact cap_le _
  · rw [bnd_met]; exact cap_le _
theorem oilS_inv (hI : Inv D R) (s up : Nat) : Inv D (oilS R s up) := Inv.set hI (cap_le _) (by omega)
theorem upS_inv (hI : Inv D R) {t up : Nat} (ht : t ≤ D + 1) : Inv D (upS R t up) := by
  refine Inv.set (Inv.set hI ?_ (by omega)) ?_ (by omega)
  · rw [bnd_on]; omega
  · rw [bnd_since]; exact ht
theorem dnS_inv (hI : Inv D R) {t o : Nat} (ht : t ≤ D + 1) : Inv D (dnS R t o) := by
  refine Inv.set (Inv.set hI ?_ (by omega)) ?_ (by omega)
  · rw [bnd_on]; omega
  · rw [bnd_since]; exact ht
theorem relS_inv (hI : Inv D R) {s up b : Nat} (hup : up < 8) (hb : b ≤ 8) : Inv D (relS R s up b) := by
  have hd := hI.day
  unfold relS
  split
  · exact upS_inv (oilS_inv hI s up) (by omega)
  · exact upS_inv (dnS_inv (metS_inv (oilS_inv hI s up) hup (by omega)) (by omega)) (by omega)
theorem c_relieve_c (hI : Inv D R) {up s b : Nat} (hup : up < 8) (hb : b ≤ 8) (hne : b ≠ up + 1) (h1 : 1 ≤ s) (hs : s < 100) : fX1_relieve_c21 (nI up) (nI s) (eB b) (encL R u d) = some (encL (relS R s up b) (if b = 0 then u else nI up) (if b = 0 then d else eB b)) := by
  unfold fX1_relieve_c21 fX1_relieve_c96
  have a1 := hI.oil
  have a2 := hI.day
  have a3 := hI.2.2
  have a5 := hI.kind hup
  have b1 := brS_le (kd := R (35 + 5 * up)) hs
  simp (disch := omega) only [n_0, n_1, n_9999, g_inb, n_cl, letb_eq, bind_eq, encL_0, encL_2, n_add, capI, encL_s3, encL_s4, encL_s0, wr_ne, c_brings]
  by_cases h0 : b = 0
  · subst h0
    rw [if_pos (show eB 0 < nI 0 from eB_neg), if_pos rfl, if_pos rfl]
    have e : wr (wr (wr R (36 + 5 * up) 1) (37 + 5 * up) (R 0 + 1)) 2 (cap (R 2 + brS (R (35 + 5 * up)) s)) = relS R s up 0 := by
      show _ = upS (oilS R s up) (R 0 + 1) up
      unfold upS oilS
      funext i
      by_cases c5 : i = 36 + 5 * up
      · subst c5; simp (disch := omega) only [wr_eq, wr_ne]
      by_cases c6 : i = 37 + 5 * up
      · subst c6; simp (disch := omega) only [wr_eq, wr_ne]
      by_cases c9 : i = 2
      · subst c9; simp (disch := omega) only [wr_eq, wr_ne]
      simp (disch := omega) only [wr_ne]
    rw [e]
  · obtain ⟨o, rfl⟩ : ∃ o, b = o + 1 := ⟨b - 1, by omega⟩
    rw [if_neg h0, if_neg h0, eB_s, if_neg (show ¬ nI o < nI 0 from i_nlt (b := 0) (by omega) (by decide) (by omega))]
    simp (disch := omega) only [g_inb, n_cl, encL_0, n_add, encL_s3, encL_s4, wr_ne]
    have hI2 : Inv D (wr (wr (wr (wr (wr R (36 + 5 * up) 1) (37 + 5 * up) (R 0 + 1)) 2 (cap (R 2 + brS (R (35 + 5 * up)) s))) (36 + 5 * o) 0) (37 + 5 * o) (R 0 + 1)) := by
      refine Inv.set (Inv.set (Inv.set (Inv.set (Inv.set hI ?_ (by omega)) ?_ (by omega)) (cap_le _) (by omega)) ?_ (by omega)) ?_ (by omega)
      · rw [bnd_on]; omega
      · rw [bnd_since]; omega
      · rw [bnd_on]; omega
      · rw [bnd_since]; omega
    rw [c_meet hI2 hup (by omega) (by omega) h1 hs, bind_eq]
    have e : metS (wr (wr (wr (wr (wr R (36 + 5 * up) 1) (37 + 5 * up) (R 0 + 1)) 2 (cap (R 2 + brS (R (35 + 5 * up)) s))) (36 + 5 * o) 0) (37 + 5 * o) (R 0 + 1)) s up o = relS R s up (o + 1) := by
      unfold relS
      rw [if_neg h0, Nat.add_sub_cancel]
      unfold metS upS dnS oilS
      simp (disch := omega) only [wr_ne]
      funext i
      by_cases c1 : i = 38 + 5 * o
      · subst c1; simp (disch := omega) only [wr_eq, wr_ne]
      by_cases c2 : i = 38 + 5 * up
      · subst c2; simp (disch := omega) only [wr_eq, wr_ne]
      by_cases c3 : i = 39 + 5 * o
      · subst c3; simp (disch := omega) only [wr_eq, wr_ne]
      by_cases c4 : i = 39 + 5 * up
      · subst c4; simp (disch := omega) only [wr_eq, wr_ne]
      by_cases c5 : i = 36 + 5 * up
      · subst c5; simp (disch := omega) only [wr_eq, wr_ne]
      by_cases c6 : i = 37 + 5 * up
      · subst c6; simp (disch := omega) only [wr_eq, wr_ne]
      by_cases c7 : i = 36 + 5 * o
      · subst c7; simp (disch := omega) only [wr_eq, wr_ne]
      by_cases c8 : i = 37 + 5 * o
      · subst c8; simp (disch := omega) only [wr_eq, wr_ne]
      by_cases c9 : i = 2
      · subst c9; simp (disch := omega) only [wr_eq, wr_ne]
      simp (disch := omega) only [wr_ne]
    rw [e]
theorem outS_le (R : Rw) (h6 : R 6 ≤ 8) : outS R ≤ 8 := by
  unfold outS
  have := fstS_le R 1
  split <;> omega
theorem outS_ne (R : Rw) {up : Nat} (h : R (36 + 5 * up) = 0) : outS R ≠ up + 1 := by
  unfold outS
  split
  · omega
  · intro e
    rcases fstM_is R 1 (R 6) 0 0 (Or.inl rfl) with h1 | h1
    · have : fstS R 1 = 0 := h1
      omega
    · have e2 : fstM R 1 0 (R 6) 0 = up + 1 := e
      rw [e2, Nat.add_sub_cancel] at h1
      omega
theorem c_relieve (hI : Inv D R) {up s : Nat} (hup : up < 8) (hz : R (36 + 5 * up) = 0) (h1 : 1 ≤ s) (hs : s < 100) : fX1_relieve (nI up) (nI s) (encL R u d) = some (encL (relS R s up (outS R)) (if outS R = 0 then u else nI up) (if outS R = 0 then d else eB (outS R))) := by
  have h6 := hI.many
  have hb := hI.beds
  have ho := outS_le R h6
  have hn := outS_ne R hz
  have hc : cntS R 1 ≤ 8 := by
    have h := sumM_le (fun k => if R (36 + 5 * k) = 1 then 1 else 0) 1 (R 6) 0 (fun k _ _ => by
      show (if R (36 + 5 * k) = 1 then 1 else 0) ≤ 1
      split <;> omega)
    unfold cntS
    omega
  have key := c_relieve_c (u := u) (d := d) hI hup ho hn h1 hs
  unfold fX1_relieve
  rw [show fX1_countStanding (1 : Int32) (encL R u d) = some (nI (cntS R 1)) from c_cnt hI (x := 1) (by omega), bind_eq, encL_0 (by decide)]
  by_cases hl : cntS R 1 < R 3
  · have e : outS R = 0 := by unfold outS; rw [if_pos hl]
    rw [e] at key ⊢
    rw [if_pos (i_lt (by omega) (by omega) hl)]
    exact key
  · have e : outS R = fstS R 1 := by unfold outS; rw [if_neg hl]
    rw [if_neg (i_nlt (by omega) (by omega) (by omega)), show fX1_longestStanding (1 : Int32) (encL R u d) = some (eB (fstS R 1)) from c_fst hI.kp (x := 1) (by omega), bind_eq, ← e]
    exact key
theorem galeS_inv (hI : Inv D R) {s : Nat} : Inv D (galeS R s).1 := by
  have h4 := hI.gales
  have h6 := hI.many
  have hf := fstS_le R 0
  unfold galeS
  split
  · exact Inv.set hI (show _ ≤ 2 by omega) (by omega)
  · split
    · exact Inv.set hI (show _ ≤ 2 by omega) (by omega)
    · exact relS_inv (Inv.set hI (show _ ≤ 2 by omega) (by omega)) (by omega) (outS_le R h6)
theorem c_blow (hI : Inv D R) {s : Nat} (h1 : 1 ≤ s) (hs : s < 100) : fX1_blowGale (nI s) (encL R u d) = some (encL (galeS R s).1 (if (galeS R s).2.2 = 0 then u else eB (galeS R s).2.1) (if (galeS R s).2.2 = 0 then d else eB (galeS R s).2.2)) := by
  have h4 := hI.gales
  have h6 := hI.many
  have hf := fstS_le R 0
  unfold fX1_blowGale galeS
  rw [letb_eq, encL_0 (by decide), show nI (R 4) + (1 : Int32) = nI (R 4 + 1) from n_add _ 1, encL_s0 (by decide), encL_0 (by decide), wr_eq]
  by_cases hg : R 4 + 1 < 3
  · rw [if_neg (show ¬ (3 : Int32) ≤ nI (R 4 + 1) from i_nle (a := 3) (by decide) (by omega) hg), if_pos hg]
    rfl
  · rw [if_pos (show (3 : Int32) ≤ nI (R 4 + 1) from i_le (a := 3) (by decide) (by omega) (by omega)), if_neg hg]
    have e0 : fX1_longestStanding (0 : Int32) (encL (wr R 4 (R 4 + 1)) u d) = some (eB (fstS R 0)) := by
      rw [← fstS_wr R (R 4 + 1) 0 (by decide : 4 < 35) (by decide)]
      exact c_fst (hI.kp.set _ (by decide) (by decide)) (x := 0) (by omega)
    rw [e0, bind_eq]
    by_cases hz : fstS R 0 = 0
    · rw [hz, if_neg (show ¬ 0 ≤ eB 0 by decide), if_pos rfl, letb_eq, show (2 : Int32) = nI 2 from rfl, encL_s0 (by decide), wr_wr]
      rfl
    · obtain ⟨q, hq⟩ : ∃ q, fstS R 0 = q + 1 := ⟨fstS R 0 - 1, by omega⟩
      have hon : R (36 + 5 * q) = 0 := by
        rcases fstM_is R 0 (R 6) 0 0 (Or.inl rfl) with h | h
        · have : fstS R 0 = 0 := h
          omega
        · have e2 : fstM R 0 0 (R 6) 0 = q + 1 := hq
          rw [e2, Nat.add_sub_cancel] at h
          exact h
      rw [hq, eB_s, if_pos (i_pos (by omega)), if_neg (by omega), letb_eq, show (0 : Int32) = nI 0 from rfl, encL_s0 (by decide), wr_wr]
      have hI4 : Inv D (wr R 4 0) := Inv.set hI (show _ ≤ 2 by omega) (by omega)
      rw [c_relieve hI4 (by omega) (by rw [wr_ne _ _ (by omega)]; exact hon) h1 hs, bind_eq, outS_wr R 0 (by decide) (by decide) (by decide), Nat.add_sub_cancel]
      show some (encL _ (if outS R = 0 then u else nI q) _) = some (encL _ (if outS R = 0 then u else eB (q + 1)) _)
      rw [eB_s]
theorem burnS_inv (hI : Inv D R) (need : Nat) : Inv D (burnS R need) := by
  have h2 := hI.oil
  unfold burnS
  split
  · exact Inv.set hI (show _ ≤ 9999 by omega) (by omega)
  · exact Inv.set (Inv.set hI (cap_le _) (by omega)) (show _ ≤ 9999 by omega) (by omega)
theorem c_burn (hI : Inv D R) {need : Nat} (hn : need < 1000) : fX1_burnOil (nI need) (encL R u d) = some (encL (burnS R need) u d) := by
  have h2 := hI.oil
  have h5 := hI.dark
  unfold fX1_burnOil fX1_burnOil_c42 burnS
  rw [encL_0 (by decide)]
  by_cases hc : need ≤ R 2
  · rw [if_pos (i_le (by omega) (by omega) hc), if_pos hc, letb_eq, n_sub hc, encL_s0 (by decide)]
  · rw [if_neg (i_nle (by omega) (by omega) (by omega)), if_neg hc, letb_eq, letb_eq, show (0 : Int32) = nI 0 from rfl, encL_s0 (by decide)]
    simp (disch := omega) only [n_1, n_9999, encL_0, wr_ne, n_add, capI, encL_s0]
    rw [wr_comm _ (by decide)]
theorem burnS_0 (R : Rw) (need : Nat) : burnS R need 0 = R 0 := by
  unfold burnS
  split
  · rw [wr_ne _ _ (by decide)]
  · rw [wr_ne _ _ (by decide), wr_ne _ _ (by decide)]
theorem burnS_big (R : Rw) (need : Nat) {j : Nat} (hj : j ≠ 2) (h5 : j ≠ 5) : burnS R need j = R j := by
  unfold burnS
  split
  · rw [wr_ne _ _ hj]
  · rw [wr_ne _ _ hj, wr_ne _ _ h5]
theorem secS_burn (R : Rw) (need n : Nat) : secS (burnS R need) n = secS R n := by
  unfold secS
  rw [burnS_big R need (by decide) (by decide), burnS_big R need (by omega) (by omega)]
theorem secS_le (hI : Inv D R) (n : Nat) : secS R n ≤ 13 := by
  have h1 := hI.sea (i := n % 28) (Nat.mod_lt _ (by decide))
  unfold secS
  split <;> omega
theorem galeS_0 (R : Rw) (s : Nat) : (galeS R s).1 0 = R 0 := by
  unfold galeS
  split
  · show wr R 4 (R 4 + 1) 0 = R 0
    rw [wr_ne _ _ (by decide)]
  · split
    · show wr R 4 2 0 = R 0
      rw [wr_ne _ _ (by decide)]
    · show relS _ _ _ _ 0 = _
      unfold relS upS dnS metS oilS
      split <;> simp (disch := omega) only [wr_ne]
/-- the day of the component -/
def upI (p : Rw × Nat × Nat) : Int32 := if p.2.2 = 0 then -1 else eB p.2.1
theorem c_day (hI : Inv D R) (hD : D + 1 < 100000) : fX1_passDay (encL R u d) = some (encL (dayS R).1 (upI (dayS R)) (eB (dayS R).2.2)) := by
  have hda := hI.day
  have hu := usAll_le hI
  have hIb := burnS_inv hI (usAll R)
  have hsl := secS_le hI (R 0)
  unfold fX1_passDay fX1_passDay_c36 dayS
  rw [letb_eq, encL_s7, letb_eq, encL_s8, c_usAll hI, bind_eq, c_burn hI (by omega), bind_eq, encL_0 (by decide), burnS_0, c_sec hIb (by omega), bind_eq, secS_burn]
  by_cases h0 : secS R (R 0) = 0
  · rw [h0, if_pos (show nI 0 ≤ 0 by decide), if_pos rfl, letb_eq, show nI (R 0) + (1 : Int32) = nI (R 0 + 1) from n_add _ 1, encL_s0 (by decide)]
    rfl
  · rw [if_neg (show ¬ nI (secS R (R 0)) ≤ 0 from i_nle (b := 0) (by omega) (by decide) (by omega)), if_neg h0, c_blow hIb (by omega) (by omega), bind_eq, letb_eq, encL_0 (by decide), galeS_0, burnS_0, show nI (R 0) + (1 : Int32) = nI (R 0 + 1) from n_add _ 1, encL_s0 (by decide)]
    unfold upI
    by_cases hz : (galeS (burnS R (usAll R)) (secS R (R 0))).2.2 = 0
    · rw [if_pos hz, if_pos hz, hz]; rfl
    · rw [if_neg hz, if_neg hz]
      try rfl
theorem day_inv (hI : Inv D R) (hD : D + 1 < 100000) : Inv (D + 1) (dayS R).1 := by
  have hda := hI.day
  have hIb := burnS_inv hI (usAll R)
  unfold dayS
  split
  · exact Inv.set (hIb.mono (by omega) hD) (show _ ≤ D + 1 by omega) (by omega)
  · exact Inv.set ((galeS_inv hIb).mono (by omega) hD) (show _ ≤ D + 1 by omega) (by omega)
end CD
