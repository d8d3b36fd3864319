-- ===== the component's light: readings =====
theorem i_le {a b : Nat} (ha : a < 2147483648) (hb : b < 2147483648) (h : a ≤ b) : nI a ≤ nI b := of_eq_true (by rw [n_le ha hb]; exact eq_true h)
theorem i_nle {a b : Nat} (ha : a < 2147483648) (hb : b < 2147483648) (h : b < a) : ¬ nI a ≤ nI b := by rw [n_le ha hb]; omega
theorem i_lt {a b : Nat} (ha : a < 2147483648) (hb : b < 2147483648) (h : a < b) : nI a < nI b := by rw [n_lt ha hb]; exact h
theorem i_nlt {a b : Nat} (ha : a < 2147483648) (hb : b < 2147483648) (h : b ≤ a) : ¬ nI a < nI b := by rw [n_lt ha hb]; omega
theorem i_ne {a b : Nat} (ha : a < 2147483648) (hb : b < 2147483648) (h : a ≠ b) : ¬ nI a = nI b := by rw [n_eq ha hb]; exact h
theorem i_ne1 {a : Nat} (ha : a < 2147483648) (h : a ≠ 1) : ¬ nI a = (1 : Int32) := i_ne ha (by decide) h
theorem i_ne0 {a : Nat} (ha : a < 2147483648) (h : a ≠ 0) : ¬ nI a = (0 : Int32) := i_ne ha (by decide) h
theorem i_nneg {a : Nat} (ha : a < 2147483648) : ¬ nI a < 0 := by rw [n_nlt0 ha]; exact id
theorem i_pos {a : Nat} (ha : a < 2147483648) : 0 ≤ nI a := of_eq_true (n_le0 ha)
theorem eB_neg : eB 0 < 0 := by decide
theorem eB_0 : eB 0 = -1 := rfl
theorem eB_s (b : Nat) : eB (b + 1) = nI b := by
  unfold eB
  rw [if_neg (by omega), Nat.add_sub_cancel]
section CL
variable {D : Nat} {R : Rw} {u d : Int32}
theorem c_sea (hI : Inv D R) {n : Nat} (hn : n < 2147483648) : fX1_seaOn (nI n) (encL R u d) = some (nI (R (7 + n % 28))) := by
  unfold fX1_seaOn
  have h : n % 28 < 28 := Nat.mod_lt _ (by decide)
  rw [fmod28 hn, bind_eq, grd_if (n_inb (by omega) h), n_cl (by omega), encL_1 h]
theorem c_gale (hI : Inv D R) {n : Nat} (hn : n < 2147483648) : fX1_hasGaleOn (nI n) (encL R u d) = some (if R 1 ≤ R (7 + n % 28) then 1 else 0) := by
  unfold fX1_hasGaleOn
  have h : n % 28 < 28 := Nat.mod_lt _ (by decide)
  have h1 := hI.sea h
  have h2 := hI.rock
  rw [c_sea hI hn, bind_eq, encL_0 (by decide)]
  by_cases hc : R 1 ≤ R (7 + n % 28)
  · rw [if_neg (i_nlt (by omega) (by omega) hc), if_pos hc]; rfl
  · rw [if_pos (i_lt (by omega) (by omega) (by omega)), if_neg hc]; rfl
theorem c_sec (hI : Inv D R) {n : Nat} (hn : n < 2147483648) : fX1_secondsOn (nI n) (encL R u d) = some (nI (secS R n)) := by
  unfold fX1_secondsOn fX1_secondsOn_c26 secS
  have h : n % 28 < 28 := Nat.mod_lt _ (by decide)
  have h1 := hI.sea h
  have h2 := hI.rock
  rw [c_sea hI hn, bind_eq, encL_0 (by decide)]
  by_cases hc : R 1 ≤ R (7 + n % 28)
  · rw [if_neg (i_nlt (by omega) (by omega) hc), if_pos hc, n_sub hc, n_1, n_add]
  · rw [if_pos (i_lt (by omega) (by omega) (by omega)), if_neg hc]; rfl
theorem c_galeDays_lp (hI : Inv D R) : ∀ m i acc fuel, i + m = 28 → m < fuel → fX1_countGaleDays_c4 fuel (nI acc) (nI i) (encL R u d) = some (nI (acc + sumM (fun i => if R 1 ≤ R (7 + i) then 1 else 0) i m)) := by
  intro m
  induction m with
  | zero =>
    intro i acc fuel hi hf
    cases fuel with
    | zero => omega
    | succ n =>
      rw [fX1_countGaleDays_c4, n_28, if_pos (i_le (by decide) (by omega) (by omega))]; rfl
  | succ m ih =>
    intro i acc fuel hi hf
    cases fuel with
    | zero => omega
    | succ n =>
      rw [fX1_countGaleDays_c4, n_28, if_neg (i_nle (by decide) (by omega) (by omega)), c_gale hI (by omega), bind_eq, Nat.mod_eq_of_lt (by omega : i < 28)]
      show _ = some (nI (acc + ((if R 1 ≤ R (7 + i) then 1 else 0) + sumM (fun i => if R 1 ≤ R (7 + i) then 1 else 0) (i + 1) m)))
      by_cases hc : R 1 ≤ R (7 + i)
      · rw [if_pos hc, if_pos hc, if_neg (by decide), letb_eq, n_1, n_add]
        unfold fX1_countGaleDays_c21
        rw [letb_eq, n_1, n_add, ih (i + 1) (acc + 1) n (by omega) (by omega), Nat.add_assoc]
      · rw [if_neg hc, if_neg hc, if_pos rfl]
        unfold fX1_countGaleDays_c21
        rw [letb_eq, n_1, n_add, ih (i + 1) acc n (by omega) (by omega), Nat.zero_add]
theorem FU_eq : FU = 4000 := rfl
theorem c_galeDays (hI : Inv D R) : fX1_countGaleDays (encL R u d) = some (nI (galS R)) := by
  unfold fX1_countGaleDays galS
  rw [n_0, c_galeDays_lp hI 28 0 0 FU (by omega) (by rw [FU_eq]; omega), Nat.zero_add]
theorem c_full (hI : Inv D R) : fX1_isFull (encL R u d) = some (if R 6 < 8 then 0 else 1) := by
  unfold fX1_isFull
  have h6 := hI.many
  rw [encL_0 (by decide), n_8]
  by_cases hc : R 6 < 8
  · rw [if_pos (i_lt (by omega) (by decide) hc), if_pos hc]; rfl
  · rw [if_neg (i_nlt (by omega) (by decide) (by omega)), if_neg hc]; rfl
/-- a number from the scripts is one of the keepers -/
def isK (R : Rw) (x : Int32) : Prop := 0 ≤ x.toInt ∧ x.toInt < R 6
theorem isK_nat {x : Int32} (h : isK R x) : ∃ k : Nat, k < R 6 ∧ x = nI k := by
  obtain ⟨h1, h2⟩ := h
  refine ⟨x.toInt.toNat, by omega, ?_⟩
  apply Int32.toInt_inj.mp
  have h3 : x.toInt < 2147483648 := Int32.toInt_lt x
  rw [nI_toInt (by omega)]
  omega
theorem within_true {x a b : Int32} (h : a ≤ x ∧ x ≤ b) : fX5_within x a b = some 1 := by rw [fX5_within_eq, if_pos h]
theorem within_false {x a b : Int32} (h : ¬ (a ≤ x ∧ x ≤ b)) : fX5_within x a b = some 0 := by rw [fX5_within_eq, if_neg h]
theorem i_sub1 {a : Nat} (ha : a < 1000) : (nI a - 1).toInt = (a : Int) - 1 := by
  rw [n_1, pk_sub_toInt (by omega) (by decide)]
  rfl
theorem c_has (hI : Inv D R) {x : Int32} (h : isK R x) : fX1_hasKeeper x (encL R u d) = some 1 := by
  unfold fX1_hasKeeper
  have h6 := hI.many
  rw [encL_0 (by decide), within_true, bind_eq]
  · rfl
  · rw [fa_le, fa_le, i_sub1 (by omega)]
    have h0 : (0 : Int32).toInt = 0 := rfl
    have := h.1; have := h.2
    omega
theorem c_hasN (hI : Inv D R) {x : Int32} (h : ¬ isK R x) : fX1_hasKeeper x (encL R u d) = some 0 := by
  unfold fX1_hasKeeper
  have h6 := hI.many
  rw [encL_0 (by decide), within_false, bind_eq]
  · rfl
  · rw [fa_le, fa_le, i_sub1 (by omega)]
    have h0 : (0 : Int32).toInt = 0 := rfl
    unfold isK at h
    omega
theorem c_cnt_lp (hI : Inv D R) {x : Nat} (hx : x ≤ 1) : ∀ m i acc fuel, i + m = R 6 → m < fuel → fX1_countStanding_c4 fuel (nI x) (nI acc) (nI i) (encL R u d) = some (nI (acc + sumM (fun k => if R (36 + 5 * k) = x then 1 else 0) i m)) := by
  have h6 := hI.many
  intro m
  induction m with
  | zero =>
    intro i acc fuel hi hf
    cases fuel with
    | zero => omega
    | succ n => rw [fX1_countStanding_c4, encL_0 (by decide), if_pos (i_le (by omega) (by omega) (by omega))]; rfl
  | succ m ih =>
    intro i acc fuel hi hf
    cases fuel with
    | zero => omega
    | succ n =>
      have ho := hI.on (k := i) (by omega)
      rw [fX1_countStanding_c4, encL_0 (by decide), if_neg (i_nle (by omega) (by omega) (by omega)), grd_if (n_inb (by omega) (by omega)), n_cl (by omega), encL_3 (by omega)]
      show _ = some (nI (acc + ((if R (36 + 5 * i) = x then 1 else 0) + sumM (fun k => if R (36 + 5 * k) = x then 1 else 0) (i + 1) m)))
      by_cases hc : R (36 + 5 * i) = x
      · rw [if_pos (by rw [hc]), if_pos hc, letb_eq, n_1, n_add]
        unfold fX1_countStanding_c25
        rw [letb_eq, n_1, n_add, ih (i + 1) (acc + 1) n (by omega) (by omega), Nat.add_assoc]
      · rw [if_neg (i_ne (by omega) (by omega) hc), if_neg hc]
        unfold fX1_countStanding_c25
        rw [letb_eq, n_1, n_add, ih (i + 1) acc n (by omega) (by omega), Nat.zero_add]
theorem c_cnt (hI : Inv D R) {x : Nat} (hx : x ≤ 1) : fX1_countStanding (nI x) (encL R u d) = some (nI (cntS R x)) := by
  unfold fX1_countStanding cntS
  have h6 := hI.many
  rw [n_0, c_cnt_lp hI hx (R 6) 0 0 FU (by omega) (by rw [FU_eq]; omega), Nat.zero_add]
theorem or_pow : ∀ i, i < 8 → ∀ a, a < 256 → a < 2 ^ i → a ||| 2 ^ i = a + 2 ^ i := by decide +kernel
theorem c_on_lp (hI : Inv D R) : ∀ m i acc fuel, i + m = R 6 → m < fuel → acc < 2 ^ i → fX1_setOfOn_c4 fuel (nI acc) (nI i) (encL R u d) = some (nI (acc + sumM (fun k => if R (36 + 5 * k) = 1 then 2 ^ k else 0) i m)) := by
  have h6 := hI.many
  intro m
  induction m with
  | zero =>
    intro i acc fuel hi hf ha
    cases fuel with
    | zero => omega
    | succ n => rw [fX1_setOfOn_c4, encL_0 (by decide), if_pos (i_le (by omega) (by omega) (by omega))]; rfl
  | succ m ih =>
    intro i acc fuel hi hf ha
    cases fuel with
    | zero => omega
    | succ n =>
      have ho := hI.on (k := i) (by omega)
      have hp : 2 ^ i ≤ 2 ^ 7 := Nat.pow_le_pow_right (by decide) (by omega)
      have hs : 2 ^ (i + 1) = 2 ^ i * 2 := Nat.pow_succ _ _
      rw [fX1_setOfOn_c4, encL_0 (by decide), if_neg (i_nle (by omega) (by omega) (by omega)), grd_if (n_inb (by omega) (by omega)), n_cl (by omega), encL_3 (by omega)]
      show _ = some (nI (acc + ((if R (36 + 5 * i) = 1 then 2 ^ i else 0) + sumM (fun k => if R (36 + 5 * k) = 1 then 2 ^ k else 0) (i + 1) m)))
      by_cases hc : R (36 + 5 * i) = 1
      · rw [if_pos (by rw [hc]; rfl), if_pos hc, letb_eq, shl1 i (by omega), fa_or, or_pow i (by omega) acc (by omega) ha]
        unfold fX1_setOfOn_c28
        rw [letb_eq, n_1, n_add, ih (i + 1) (acc + 2 ^ i) n (by omega) (by omega) (by omega), Nat.add_assoc]
      · rw [if_neg (i_ne1 (by omega) hc), if_neg hc]
        unfold fX1_setOfOn_c28
        rw [letb_eq, n_1, n_add, ih (i + 1) acc n (by omega) (by omega) (by omega), Nat.zero_add]
theorem c_on (hI : Inv D R) : fX1_setOfOn (encL R u d) = some (nI (onS R)) := by
  unfold fX1_setOfOn onS
  have h6 := hI.many
  rw [n_0, c_on_lp hI (R 6) 0 0 FU (by omega) (by rw [FU_eq]; omega) (by decide), Nat.zero_add]
theorem c_knows (hI : Inv D R) {k w : Nat} (hk : k < 8) (hw : w < 9) : fX1_knowsWord (nI k) (nI w) (encL R u d) = some (nI (bit (R (38 + 5 * k)) w)) := by
  unfold fX1_knowsWord
  have h1 := hI.words hk
  have h2 := bit_lt (R (38 + 5 * k)) w
  rw [grd_if (n_inb (by omega) hk), n_cl (by omega), encL_5 hk, bitN (by omega) hw]
  rcases (show bit (R (38 + 5 * k)) w = 0 ∨ bit (R (38 + 5 * k)) w = 1 by omega) with h | h
  · rw [h]; rfl
  · rw [h]; rfl
theorem c_knw_lp (hI : Inv D R) {w : Nat} (hw : w < 9) : ∀ m i acc fuel, i + m = R 6 → m < fuel → fX1_countKnowing_c4 fuel (nI w) (nI acc) (nI i) (encL R u d) = some (nI (acc + sumM (fun k => bit (R (38 + 5 * k)) w) i m)) := by
  have h6 := hI.many
  intro m
  induction m with
  | zero =>
    intro i acc fuel hi hf
    cases fuel with
    | zero => omega
    | succ n => rw [fX1_countKnowing_c4, encL_0 (by decide), if_pos (i_le (by omega) (by omega) (by omega))]; rfl
  | succ m ih =>
    intro i acc fuel hi hf
    cases fuel with
    | zero => omega
    | succ n =>
      have h2 := bit_lt (R (38 + 5 * i)) w
      rw [fX1_countKnowing_c4, encL_0 (by decide), if_neg (i_nle (by omega) (by omega) (by omega)), c_knows hI (by omega) hw, bind_eq]
      show _ = some (nI (acc + (bit (R (38 + 5 * i)) w + sumM (fun k => bit (R (38 + 5 * k)) w) (i + 1) m)))
      rcases (show bit (R (38 + 5 * i)) w = 0 ∨ bit (R (38 + 5 * i)) w = 1 by omega) with h | h
      · rw [h, if_pos (show nI 0 = 0 from rfl)]
        unfold fX1_countKnowing_c24
        rw [letb_eq, n_1, n_add, ih (i + 1) acc n (by omega) (by omega), Nat.zero_add]
      · rw [h, if_neg (by decide), letb_eq, n_1, n_add]
        unfold fX1_countKnowing_c24
        rw [letb_eq, n_1, n_add, ih (i + 1) (acc + 1) n (by omega) (by omega), Nat.add_assoc]
theorem c_knw (hI : Inv D R) {w : Nat} (hw : w < 9) : fX1_countKnowing (nI w) (encL R u d) = some (nI (knwS R w)) := by
  unfold fX1_countKnowing knwS
  have h6 := hI.many
  rw [n_0, c_knw_lp hI hw (R 6) 0 0 FU (by omega) (by rw [FU_eq]; omega), Nat.zero_add]
theorem c_wrd_lp (hI : Inv D R) : ∀ m i acc fuel, i + m = R 6 → m < fuel → fX1_wordsTogether_c4 fuel (nI acc) (nI i) (encL R u d) = some (nI (acc + sumM (fun k => pcount (R (38 + 5 * k))) i m)) := by
  have h6 := hI.many
  intro m
  induction m with
  | zero =>
    intro i acc fuel hi hf
    cases fuel with
    | zero => omega
    | succ n => rw [fX1_wordsTogether_c4, encL_0 (by decide), if_pos (i_le (by omega) (by omega) (by omega))]; rfl
  | succ m ih =>
    intro i acc fuel hi hf
    cases fuel with
    | zero => omega
    | succ n =>
      have h2 := hI.words (k := i) (by omega)
      rw [fX1_wordsTogether_c4, encL_0 (by decide), if_neg (i_nle (by omega) (by omega) (by omega)), grd_if (n_inb (by omega) (by omega)), n_cl (by omega), encL_5 (by omega), bitCount_all _ (by omega), bind_eq, letb_eq, letb_eq, n_add, n_1, n_add]
      show _ = some (nI (acc + (pcount (R (38 + 5 * i)) + sumM (fun k => pcount (R (38 + 5 * k))) (i + 1) m)))
      rw [← Nat.add_assoc]
      exact ih (i + 1) _ n (by omega) (by omega)
theorem c_wrd (hI : Inv D R) : fX1_wordsTogether (encL R u d) = some (nI (wrdS R)) := by
  unfold fX1_wordsTogether wrdS
  have h6 := hI.many
  rw [n_0, c_wrd_lp hI (R 6) 0 0 FU (by omega) (by rw [FU_eq]; omega), Nat.zero_add]
theorem c_bes_lp (hI : Inv D R) {k : Nat} (hk : k < 8) : ∀ m i fuel, i + m = R 6 → m < fuel → fX1_isBesideBrother_c2 fuel (nI k) (nI i) (encL R u d) = some (if anyM (broS R k) i m = true then 1 else 0) := by
  have h6 := hI.many
  intro m
  induction m with
  | zero =>
    intro i fuel hi hf
    cases fuel with
    | zero => omega
    | succ n => rw [fX1_isBesideBrother_c2, encL_0 (by decide), if_pos (i_le (by omega) (by omega) (by omega))]; rfl
  | succ m ih =>
    intro i fuel hi hf
    cases fuel with
    | zero => omega
    | succ n =>
      have ho := hI.on (k := i) (by omega)
      have hkd := hI.kind (k := i) (by omega)
      have next : fX1_isBesideBrother_c40 (fX1_isBesideBrother_c2 n) (nI k) (nI i) (encL R u d) = some (if anyM (broS R k) (i + 1) m = true then 1 else 0) := by
        unfold fX1_isBesideBrother_c40
        rw [letb_eq, show nI i + (1 : Int32) = nI (i + 1) from n_add i 1, ih (i + 1) n (by omega) (by omega)]
      rw [fX1_isBesideBrother_c2, encL_0 (by decide), if_neg (i_nle (by omega) (by omega) (by omega)), next]
      show _ = some (if (broS R k i || anyM (broS R k) (i + 1) m) = true then 1 else 0)
      by_cases he : i = k
      · have hb : broS R k i = false := by unfold broS; rw [decide_eq_false (by simpa using he)]; rfl
        rw [if_pos (by rw [he]), hb, Bool.false_or]
      · rw [if_neg (i_ne (by omega) (by omega) he), grd_if (n_inb (by omega) (by omega)), n_cl (by omega), encL_3 (by omega), grd_if (n_inb (by omega) (by omega)), encL_2 (by omega)]
        by_cases hon : R (36 + 5 * i) = 1
        · rw [if_pos (by rw [hon]; rfl)]
          have hu : fX0_isOrIsUnder (nI (R (35 + 5 * i))) (1 : Int32) = some (if R (35 + 5 * i) = 1 ∨ R (35 + 5 * i) = 4 then 1 else 0) := by
            rcases (show R (35 + 5 * i) = 0 ∨ R (35 + 5 * i) = 1 ∨ R (35 + 5 * i) = 2 ∨ R (35 + 5 * i) = 3 ∨ R (35 + 5 * i) = 4 ∨ R (35 + 5 * i) = 5 by omega) with h | h | h | h | h | h <;> rw [h] <;> decide +kernel
          rw [hu, bind_eq]
          by_cases hb : R (35 + 5 * i) = 1 ∨ R (35 + 5 * i) = 4
          · have hb2 : broS R k i = true := by
              unfold broS
              rw [decide_eq_true he, decide_eq_true hon, Bool.true_and, Bool.true_and, Bool.or_eq_true, decide_eq_true_eq, decide_eq_true_eq]
              exact hb
            rw [if_pos hb, if_neg (by decide), hb2]; rfl
          · have hb2 : broS R k i = false := by
              unfold broS
              rw [decide_eq_false (by omega : ¬ R (35 + 5 * i) = 1), decide_eq_false (by omega : ¬ R (35 + 5 * i) = 4)]
              simp
            rw [if_neg hb, if_pos rfl, hb2, Bool.false_or]
        · have hb2 : broS R k i = false := by
            unfold broS
            rw [decide_eq_false hon]
            simp
          rw [if_neg (i_ne1 (by omega) hon), hb2, Bool.false_or]
theorem c_bes (hI : Inv D R) {k : Nat} (hk : k < 8) : fX1_isBesideBrother (nI k) (encL R u d) = some (if besS R k = true then 1 else 0) := by
  unfold fX1_isBesideBrother besS
  have h6 := hI.many
  exact c_bes_lp hI hk (R 6) 0 FU (by omega) (by rw [FU_eq]; omega)
theorem c_uses (hI : Inv D R) {k : Nat} (hk : k < 8) : fX1_usesOf (nI k) (encL R u d) = some (nI (usS R k)) := by
  unfold fX1_usesOf usS
  have hkd := hI.kind hk
  rw [grd_if (n_inb (by omega) hk), c_bes hI hk, bind_eq, n_cl (by omega), encL_2 hk]
  have e : ∀ b : Int32, (b = 0 ∨ b = 1) → ∀ kd, kd ≤ 5 → fX0_uses (nI kd) b = some (nI (if kd = 2 then 1 else if kd = 3 then 3 else if kd = 4 then (if b = 1 then 1 else 2) else 2)) := by
    intro b hb kd hkd
    rcases hb with rfl | rfl <;> rcases (show kd = 0 ∨ kd = 1 ∨ kd = 2 ∨ kd = 3 ∨ kd = 4 ∨ kd = 5 by omega) with h | h | h | h | h | h <;> rw [h] <;> decide +kernel
  by_cases hb : besS R k = true
  · rw [if_pos hb, if_pos hb, e 1 (Or.inr rfl) _ hkd, bind_eq]; rfl
  · rw [if_neg hb, if_neg hb, e 0 (Or.inl rfl) _ hkd, bind_eq]; rfl
theorem usS_le (R : Rw) (k : Nat) : usS R k ≤ 3 := by
  unfold usS
  (repeat' split) <;> omega
theorem c_usAll_lp (hI : Inv D R) : ∀ m i acc fuel, i + m = R 6 → m < fuel → fX1_usesTogether_c4 fuel (nI acc) (nI i) (encL R u d) = some (nI (acc + sumM (fun k => if R (36 + 5 * k) = 1 then usS R k else 0) i m)) := by
  have h6 := hI.many
  intro m
  induction m with
  | zero =>
    intro i acc fuel hi hf
    cases fuel with
    | zero => omega
    | succ n => rw [fX1_usesTogether_c4, encL_0 (by decide), if_pos (i_le (by omega) (by omega) (by omega))]; rfl
  | succ m ih =>
    intro i acc fuel hi hf
    cases fuel with
    | zero => omega
    | succ n =>
      have ho := hI.on (k := i) (by omega)
      have hu := usS_le R i
      rw [fX1_usesTogether_c4, encL_0 (by decide), if_neg (i_nle (by omega) (by omega) (by omega)), grd_if (n_inb (by omega) (by omega)), n_cl (by omega), encL_3 (by omega)]
      show _ = some (nI (acc + ((if R (36 + 5 * i) = 1 then usS R i else 0) + sumM (fun k => if R (36 + 5 * k) = 1 then usS R k else 0) (i + 1) m)))
      by_cases hc : R (36 + 5 * i) = 1
      · rw [if_pos (by rw [hc]; rfl), if_pos hc, c_uses hI (by omega), bind_eq, letb_eq, n_add]
        unfold fX1_usesTogether_c30
        rw [letb_eq, n_1, n_add, ih (i + 1) (acc + usS R i) n (by omega) (by omega), Nat.add_assoc]
      · rw [if_neg (i_ne1 (by omega) hc), if_neg hc]
        unfold fX1_usesTogether_c30
        rw [letb_eq, n_1, n_add, ih (i + 1) acc n (by omega) (by omega), Nat.zero_add]
theorem c_usAll (hI : Inv D R) : fX1_usesTogether (encL R u d) = some (nI (usAll R)) := by
  unfold fX1_usesTogether usAll
  have h6 := hI.many
  rw [n_0, c_usAll_lp hI (R 6) 0 0 FU (by omega) (by rw [FU_eq]; omega), Nat.zero_add]
theorem usAll_le (hI : Inv D R) : usAll R ≤ 24 := by
  have h6 := hI.many
  have h := sumM_le (fun k => if R (36 + 5 * k) = 1 then usS R k else 0) 3 (R 6) 0 (fun k _ _ => by
    have := usS_le R k
    show (if R (36 + 5 * k) = 1 then usS R k else 0) ≤ 3
    split <;> omega)
  unfold usAll
  omega
/-- what the search for the first one needs -/
def Kp (R : Rw) : Prop := R 6 ≤ 8 ∧ ∀ k, k < 8 → R (36 + 5 * k) ≤ 1 ∧ R (37 + 5 * k) ≤ 100001
theorem Inv.kp (hI : Inv D R) : Kp R := ⟨hI.many, fun k hk => ⟨hI.on hk, by have := hI.since hk; have := hI.2.2; omega⟩⟩
theorem Kp.set (h : Kp R) {j : Nat} (v : Nat) (hj : j < 35) (h6 : j ≠ 6) : Kp (wr R j v) := by
  refine ⟨by rw [wr_ne _ _ (Ne.symm h6)]; exact h.1, fun k hk => ?_⟩
  rw [wr_ne _ _ (by omega), wr_ne _ _ (by omega)]
  exact h.2 k hk
theorem c_fst_lp (hK : Kp R) {x : Nat} (hx : x ≤ 1) : ∀ m i b fuel, i + m = R 6 → m < fuel → b ≤ i → fX1_longestStanding_c4 fuel (nI x) (eB b) (nI i) (encL R u d) = some (eB (fstM R x i m b)) := by
  have h6 := hK.1
  intro m
  induction m with
  | zero =>
    intro i b fuel hi hf ha
    cases fuel with
    | zero => omega
    | succ n => rw [fX1_longestStanding_c4, encL_0 (by decide), if_pos (i_le (by omega) (by omega) (by omega))]; rfl
  | succ m ih =>
    intro i b fuel hi hf ha
    cases fuel with
    | zero => omega
    | succ n =>
      have ho := (hK.2 i (by omega)).1
      have hs := (hK.2 i (by omega)).2
      have go : ∀ b', b' ≤ i + 1 → fX1_longestStanding_c43 (fX1_longestStanding_c4 n) (nI x) (eB b') (nI i) (encL R u d) = some (eB (fstM R x (i + 1) m b')) := by
        intro b' hb'
        unfold fX1_longestStanding_c43
        rw [letb_eq, n_1, n_add, ih (i + 1) b' n (by omega) (by omega) hb']
      have go1 : fX1_longestStanding_c41 (fX1_longestStanding_c4 n) (nI x) (nI i) (encL R u d) = some (eB (fstM R x (i + 1) m (i + 1))) := by
        unfold fX1_longestStanding_c41
        have h := go (i + 1) (Nat.le_refl _)
        rw [eB_s] at h
        exact h
      rw [fX1_longestStanding_c4, encL_0 (by decide), if_neg (i_nle (by omega) (by omega) (by omega)), grd_if (n_inb (by omega) (by omega)), n_cl (by omega), encL_3 (by omega), go b (by omega), go1]
      show _ = some (eB (fstM R x (i + 1) m (if R (36 + 5 * i) = x ∧ (b = 0 ∨ R (37 + 5 * i) < R (37 + 5 * (b - 1))) then i + 1 else b)))
      by_cases hc : R (36 + 5 * i) = x
      · rw [if_pos (by rw [hc])]
        by_cases hb : b = 0
        · subst hb
          rw [if_pos eB_neg, if_pos ⟨hc, Or.inl rfl⟩]
        · obtain ⟨q, rfl⟩ : ∃ q, b = q + 1 := ⟨b - 1, by omega⟩
          have hq := (hK.2 q (by omega)).2
          rw [eB_s, if_neg (i_nneg (by omega)), grd_if (n_inb (by omega) (by omega)), grd_if (n_inb (by omega) (by omega)), n_cl (by omega), encL_4 (by omega), encL_4 (by omega), Nat.add_sub_cancel]
          by_cases hl : R (37 + 5 * i) < R (37 + 5 * q)
          · rw [if_neg (i_nle (by omega) (by omega) hl), if_pos ⟨hc, Or.inr hl⟩]
          · rw [if_pos (i_le (by omega) (by omega) (by omega)), if_neg (by omega)]
      · rw [if_neg (i_ne (by omega) (by omega) hc), if_neg (by omega)]
theorem c_fst (hK : Kp R) {x : Nat} (hx : x ≤ 1) : fX1_longestStanding (nI x) (encL R u d) = some (eB (fstS R x)) := by
  unfold fX1_longestStanding fstS
  have h6 := hK.1
  rw [n_0, ← eB_0, c_fst_lp hK hx (R 6) 0 0 FU (by omega) (by rw [FU_eq]; omega) (by omega)]
end CL
