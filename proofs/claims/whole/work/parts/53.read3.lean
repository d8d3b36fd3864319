section RG
variable {R1 R2 R3 : M2} {K : Int32} {T : M2} {SN : J2} {SZ : M2} {F : M1} {G : M2} {J : J2}
theorem rd_1 {P : Nat → Int64} {k m : Nat} {R : Rw} {a w : Nat} (h : ¬ P 0 = (nI w).toInt64) : ¬ rd P k (kwS R k a w) (m + 1) 0 = true := by
  intro hh
  have e : (decide (P 0 = (nI (kwS R k a w (38 + 5 * k))).toInt64) && rd P k (dayS (kwS R k a w)).1 m (0 + 1)) = true := hh
  have e2 : kwS R k a w (38 + 5 * k) = w := wr_eq _ _ _
  rw [e2, decide_eq_false h, Bool.false_and] at e
  exact absurd e (by decide)
theorem read_sum {P : Nat → Int64} {k z a : Nat} {R : Rw} (hz : 1 ≤ z) (ha : a ≤ 511) (hv : ∀ b, b < 512 → b ≠ a → ¬ P 0 = (nI b).toInt64) : sumM (fun x => if rd P k (kwS R k (x / 512) (x % 512)) z 0 = true then 1 else 0) 0 3072 = sumM (fun x => if rd P k (kwS R k x a) z 0 = true then 1 else 0) 0 6 := by
  obtain ⟨m, rfl⟩ : ∃ m, z = m + 1 := ⟨z - 1, by omega⟩
  have blk : ∀ y, sumM (fun x => if rd P k (kwS R k (x / 512) (x % 512)) (m + 1) 0 = true then 1 else 0) (512 * y) 512 = (if rd P k (kwS R k y a) (m + 1) 0 = true then 1 else 0) := by
    intro y
    rw [sum_one (a := a) ha]
    · show (if rd P k (kwS R k ((512 * y + a) / 512) ((512 * y + a) % 512)) (m + 1) 0 = true then 1 else 0) = _
      rw [show (512 * y + a) / 512 = y by omega, show (512 * y + a) % 512 = a by omega]
    · intro j h1 h2 h3
      show (if rd P k (kwS R k (j / 512) (j % 512)) (m + 1) 0 = true then 1 else 0) = 0
      rw [if_neg (rd_1 (hv (j % 512) (by omega) (by omega)))]
  have b0 := blk 0
  have b1 := blk 1
  have b2 := blk 2
  have b3 := blk 3
  have b4 := blk 4
  have b5 := blk 5
  rw [show 3072 = 512 + (512 + (512 + (512 + (512 + 512)))) by decide, sum_add, sum_add, sum_add, sum_add, sum_add]
  show sumM _ (512 * 0) 512 + (sumM _ (512 * 1) 512 + (sumM _ (512 * 2) 512 + (sumM _ (512 * 3) 512 + (sumM _ (512 * 4) 512 + sumM _ (512 * 5) 512)))) = _
  rw [b0, b1, b2, b3, b4, b5]
  rfl
theorem Rel.ask4 (h : Rel R1 R2 R3 K T SN SZ F G J) {R : Rw} (hG : G 1 = encG R) (Rt : Rw) (ut dt c w : Int32) : Rel R1 (encL Rt ut dt) R3 K T SN SZ F (mG (cw (st2 G 4 (encG R)) c w) R) J := by
  obtain ⟨⟨R0, u0, d0, Rt0, ut0, dt0, Rk, uk, dk, T3, T4, T8, T9, hI0, e1, e2, e3, e4, e5, e6, e7, e8, e9, e10, e11⟩, h2, h3, h4⟩ := h
  unfold Rel
  simp (disch := decide) only [mG_a, mG_1, cw_a, cw_0j, st2_ne, st2_eq]
  rw [hG] at e4
  exact ⟨⟨R0, u0, d0, Rt, ut, dt, Rk, uk, dk, T3, R, T8, T9, hI0, e1, rfl, e3, e4, e5, rfl, e7, e8, e9, e10, e11⟩, h2, h3, h4⟩
theorem lg_le (v w : Int64) : lg_cmp v w ≤ 0 ↔ ¬ v > w := by
  unfold lg_cmp
  by_cases h : v > w
  · rw [if_pos h]
    exact ⟨fun hh => absurd hh (by decide), fun hh => absurd h hh⟩
  · rw [if_neg h]
    refine ⟨fun _ => h, fun _ => ?_⟩
    by_cases e : v = w
    · rw [if_pos e]; decide
    · rw [if_neg e]; decide
theorem n64 {b : Nat} (hb : b < 2147483648) : (nI b).toInt64.toInt = b := by
  rw [Int32.toInt_toInt64, nI_toInt hb]
theorem e_read (h : Rel R1 R2 R3 K T SN SZ F G J) (x1 x2 : Int32) : ∃ r R2' F' G', fX5_read x1 x2 R1 R2 R3 K T SN SZ F = some (r, R2', F') ∧ fX6_read x1 x2 G J = some (r, G') ∧ Rel R1 R2' R3 K T SN SZ F' G' J := by
  obtain ⟨R, u, d, hI, rfl, hG⟩ := h.real
  obtain ⟨Rt, ut, dt, rfl⟩ := h.trial
  obtain ⟨T3, T4, T8, T9, -, r4, -⟩ := h.rows
  have h6 := hI.many
  unfold fX5_read fX6_read
  by_cases hs : (0 : Int32) ≤ x1 ∧ x1 ≤ 3
  · obtain ⟨q, -, hq3, rfl⟩ := rng (a := 0) (b := 3) (by decide) (by decide) hs
    obtain ⟨s0, s1, s2, z, hz, s3, s4⟩ := h.sh (k := q) (by omega)
    rw [if_pos (n_inb (by omega) (by omega)), letb_eq, n_cl (by omega)]
    by_cases h0 : G 6 q = 0
    · rw [c_missY (by rw [s0]; exact h0), bind_eq, ifn10, m_badM (by omega) h0, bind_eq, if_neg (show ¬ (-1000000006 : Int32) = 0 by decide), c_tell5, m_find5, bind2_eq, bind2_eq]
      exact ⟨_, _, _, _, rfl, rfl, h.find 5⟩
    · rw [c_missN (by rw [s0]; exact h0), bind_eq, ifp00, m_badY (by omega) h0, bind_eq, ifp00]
      by_cases hk : isK R x2
      · obtain ⟨k, hk1, rfl⟩ := isK_nat hk
        have hone : fX6_isOne (nI k) G J = some 1 := by
          have q := m_one (G := G) (J := J) hI hk
          rw [mG_self hG] at q; exact q
        rw [c_has hI hk, bind_eq, ifn10, hone, bind_eq, ifn10, g_inb (by omega) (by omega), s1, s3]
        by_cases h8 : z ≤ 8
        · have h8' : nI z ≤ (8 : Int32) := i_le (b := 8) (by omega) (by decide) h8
          rw [if_pos h8', if_pos h8', mv4_1 hG r4, bind_eq]
          have hH : st2 G 4 (encG R) = mG (cw (st2 G 4 (encG R)) (st2 G 4 (encG R) 0 0) (st2 G 4 (encG R) 0 1)) R := by
            rw [cw_self, mG_self (by rw [st2_ne _ _ (by decide)]; exact hG)]
          obtain ⟨c, w, qm⟩ := m_read_lp (J := J) (P := SN q) (H := st2 G 4 (encG R)) hI (st2_eq _ _ _) (q := q) (k := k) (z := z) (by omega) (by omega) hz (by rw [st2_ne _ _ (by decide)]; exact s3) (fun i hi => (h.cell (by omega) hi).symm) 3072 0 FU (acc := 0) (c := st2 G 4 (encG R) 0 0) (w := st2 G 4 (encG R) 0 1) (by omega) (by rw [FU_eq]; omega)
          rw [← hH, Nat.zero_add] at qm
          have qm' : fX6_read_c64 FU (nI q) (nI k) (0 : Int32) (0 : Int32) (st2 G 4 (encG R)) J = _ := qm
          rw [qm']
          by_cases z0 : z = 0
          · subst z0
            rw [if_pos (show nI 0 = (0 : Int32) from rfl), show sumM (fun x => if rd (SN q) k (kwS R k (x / 512) (x % 512)) 0 0 = true then 1 else 0) 0 3072 = 3072 from sum_1 3072 0 (fun j _ _ => rfl)]
            exact ⟨_, _, _, _, rfl, rfl, h.ask4 hG Rt ut dt c w⟩
          · rw [if_neg (i_ne0 (by omega) z0)]
            unfold fX5_countKindsThatRead fX5_countKindsThatRead_c21
            rw [show ∀ kk : Option (Int32 × M2), grd (inb (0 : Int32) 40) kk = kk from fun _ => rfl, show (0 : Int32).toNatClampNeg = 0 from rfl, letb_eq]
            have e0 : (0 : Int64).toInt = 0 := rfl
            have e511 : (511 : Int64).toInt = 511 := rfl
            by_cases c1 : lg_cmp (SN q 0) 0 < 0
            · have hn : ¬ (0 : Int64) ≤ SN q 0 := fun hh => absurd ((lg_cmp_ge _ _).mpr hh) (Int32.not_le.mpr c1)
              rw [Int64.le_iff_toInt_le, e0] at hn
              have es : sumM (fun x => if rd (SN q) k (kwS R k (x / 512) (x % 512)) z 0 = true then 1 else 0) 0 3072 = 0 := by
                obtain ⟨m, rfl⟩ : ∃ m, z = m + 1 := ⟨z - 1, by omega⟩
                refine sum_0 _ _ (fun j _ _ => ?_)
                rw [if_neg (rd_1 (fun hh => hn (by rw [hh, n64 (by omega)]; omega)))]
              rw [if_pos c1, es, bind2_eq]
              exact ⟨_, _, _, _, rfl, rfl, h.ask4 hG Rt ut dt c w⟩
            · have hp : (0 : Int64) ≤ SN q 0 := (lg_cmp_ge _ _).mp (Int32.not_lt.mp c1)
              rw [Int64.le_iff_toInt_le, e0] at hp
              rw [if_neg c1]
              by_cases c2 : lg_cmp (SN q 0) 511 ≤ 0
              · have h5 : SN q 0 ≤ 511 := Int64.not_lt.mp ((lg_le _ _).mp c2)
                rw [Int64.le_iff_toInt_le, e511] at h5
                have ev : SN q 0 = (nI (SN q 0).toInt.toNat).toInt64 := Int64.toInt_inj.mp (by rw [n64 (by omega)]; omega)
                have ev2 : (SN q 0).toInt32 = nI (SN q 0).toInt.toNat := by
                  rw [congrArg Int64.toInt32 ev]
                  exact Int32.toInt32_toInt64 _
                obtain ⟨S', u', d', qc⟩ := c_read_lp (R3 := R3) (K := K) (T := T) (SN := SN) (SZ := SZ) (F := F) (P := SN q) (u := u) (d := d) hI (q := q) (k := k) (z := z) ev2 (by omega) (by omega) hz (by rw [s1, s3]) (fun i _ => rfl) 6 0 FU (acc := 0) (S := Rt) (ut := ut) (dt := dt) (by omega) (by rw [FU_eq]; omega)
                rw [Nat.zero_add] at qc
                have qc' : fX5_countKindsThatRead_c29 FU q (nI k) (SN q 0) (0 : Int32) (0 : Int32) (encL R u d) (encL Rt ut dt) R3 K T SN SZ F = _ := qc
                rw [if_pos c2, qc', bind2_eq, read_sum (a := (SN q 0).toInt.toNat) (by omega) (by omega) (fun b hb hne hh => hne (by rw [hh, n64 (by omega)]; omega))]
                exact ⟨_, _, _, _, rfl, rfl, h.ask4 hG S' u' d' c w⟩
              · have h5 : ¬ SN q 0 ≤ 511 := fun hh => c2 ((lg_le _ _).mpr (Int64.not_lt.mpr hh))
                rw [Int64.le_iff_toInt_le, e511] at h5
                have es : sumM (fun x => if rd (SN q) k (kwS R k (x / 512) (x % 512)) z 0 = true then 1 else 0) 0 3072 = 0 := by
                  obtain ⟨m, rfl⟩ : ∃ m, z = m + 1 := ⟨z - 1, by omega⟩
                  refine sum_0 _ _ (fun j _ _ => ?_)
                  rw [if_neg (rd_1 (fun hh => h5 (by rw [hh, n64 (by omega)]; omega)))]
                rw [if_neg c2, es, bind2_eq]
                exact ⟨_, _, _, _, rfl, rfl, h.ask4 hG Rt ut dt c w⟩
        · have h8' : ¬ nI z ≤ (8 : Int32) := i_nle (b := 8) (by omega) (by decide) (by omega)
          rw [if_neg h8', if_neg h8', c_tell6, m_find6, bind2_eq, bind2_eq]
          exact ⟨_, _, _, _, rfl, rfl, h.find 6⟩
      · have hone : fX6_isOne x2 G J = some 0 := by
          have q := m_oneN (G := G) (J := J) hI hk
          rw [mG_self hG] at q; exact q
        rw [c_hasN hI hk, bind_eq, ifp00, hone, bind_eq, ifp00, c_tell0, m_find0, bind2_eq, bind2_eq]
        exact ⟨_, _, _, _, rfl, rfl, h.find 0⟩
  · rw [if_neg (by rw [sh_no hs]; decide), m_badN hs, bind_eq, if_neg (show ¬ (-1000000001 : Int32) = 0 by decide), c_tell0, m_find0, bind2_eq, bind2_eq]
    exact ⟨_, _, _, _, rfl, rfl, h.find 0⟩
end RG
