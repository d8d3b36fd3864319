section FE
variable {R1 R2 R3 : M2} {K : Int32} {T : M2} {SN : J2} {SZ : M2} {F : M1} {G : M2} {J : J2}
theorem b255 : ∀ i, i < 32 → (255#32).getLsbD i = decide (i < 8) := by decide
theorem sh_b (b : BitVec 32) (s : Nat) (hs : s ≤ 24) : (b >>> s) &&& 255#32 = (BitVec.sshiftRight b s) &&& 255#32 := by
  apply BitVec.eq_of_getLsbD_eq
  intro i hi
  rw [BitVec.getLsbD_and, BitVec.getLsbD_and, b255 i hi, BitVec.getLsbD_ushiftRight, BitVec.getLsbD_sshiftRight]
  by_cases h8 : i < 8
  · have h1 : s + i < 32 := by omega
    have h2 : ¬ 32 ≤ i := by omega
    simp [h8, h1, h2]
  · simp [h8]
theorem fb0 (x : Int32) : ((x.toUInt32 >>> (((8 : Int32) * nI 0).toUInt32 &&& Int32.toUInt32 31)).toInt32) &&& 255 = (x >>> (((8 : Int32) * nI 0) &&& 31)) &&& 255 := congrArg Int32.ofBitVec (sh_b x.toBitVec 0 (by omega))
theorem fb1 (x : Int32) : ((x.toUInt32 >>> (((8 : Int32) * nI 1).toUInt32 &&& Int32.toUInt32 31)).toInt32) &&& 255 = (x >>> (((8 : Int32) * nI 1) &&& 31)) &&& 255 := congrArg Int32.ofBitVec (sh_b x.toBitVec 8 (by omega))
theorem fb2 (x : Int32) : ((x.toUInt32 >>> (((8 : Int32) * nI 2).toUInt32 &&& Int32.toUInt32 31)).toInt32) &&& 255 = (x >>> (((8 : Int32) * nI 2) &&& 31)) &&& 255 := congrArg Int32.ofBitVec (sh_b x.toBitVec 16 (by omega))
theorem fb3 (x : Int32) : ((x.toUInt32 >>> (((8 : Int32) * nI 3).toUInt32 &&& Int32.toUInt32 31)).toInt32) &&& 255 = (x >>> (((8 : Int32) * nI 3) &&& 31)) &&& 255 := congrArg Int32.ofBitVec (sh_b x.toBitVec 24 (by omega))
theorem by_nat (x : Int32) : ∃ b, b < 256 ∧ x &&& 255 = nI b := by
  refine ⟨(x.toBitVec &&& 255#32).toNat, ?_, ?_⟩
  · rw [BitVec.toNat_and]
    exact Nat.lt_of_le_of_lt Nat.and_le_right (by decide)
  · apply Int32.toBitVec_inj.mp
    show x.toBitVec &&& 255#32 = BitVec.ofNat 32 (x.toBitVec &&& 255#32).toNat
    rw [BitVec.ofNat_toNat, BitVec.setWidth_eq]
theorem Rel.app (h : Rel R1 R2 R3 K T SN SZ F G J) {tl b : Nat} (ht : T 0 0 = nI tl) (htl : tl < 120) (hb : b < 256) : Rel R1 R2 R3 K (st2 (st2 T 1 (upd (T 1) tl (nI b))) 0 (upd (T 0) 0 (nI (tl + 1)))) SN SZ F (st2 (st2 G 5 (upd (G 5) tl (nI b))) 0 (upd (G 0) 2 (nI (tl + 1)))) J := by
  obtain ⟨h1, ⟨t, htt, e1, e2, e3, e4⟩, h3, h4⟩ := h
  unfold Rel
  simp (disch := decide) only [st2_ne, st2_eq, upd_ne, upd_eq]
  refine ⟨h1, ⟨tl + 1, by omega, ?_, rfl, ?_, ?_⟩, h3, h4⟩
  · rw [st2_eq, upd_eq]
  · intro j hj
    rw [st2_ne _ _ (by decide), st2_eq]
    by_cases e : j = tl
    · subst e
      rw [upd_eq, upd_eq]
    · rw [upd_ne _ _ e, upd_ne _ _ e]
      exact e3 j hj
  · intro j hj
    by_cases e : j = tl
    · subst e
      exact ⟨b, hb, by rw [upd_eq]⟩
    · rw [upd_ne _ _ e]
      exact e4 j hj
theorem feed_lp (x : Int32) : ∀ i fuel {T G : M2} {tl : Nat}, Rel R1 R2 R3 K T SN SZ F G J → i ≤ 4 → T 0 0 = nI tl → tl + i ≤ 120 → i < fuel → ∃ r T' G', fX5_feed_c41 fuel x (nI i + -1) R1 R2 R3 K T SN SZ F = some (r, T', F) ∧ fX6_feed_c38 fuel x (nI i + -1) G J = some (r, G') ∧ Rel R1 R2 R3 K T' SN SZ F G' J := by
  intro i
  induction i with
  | zero =>
    intro fuel T G tl h hi ht htl hf
    obtain ⟨f, rfl⟩ : ∃ f, fuel = f + 1 := ⟨fuel - 1, by omega⟩
    have hn : nI 0 + -1 < 0 := by decide
    refine ⟨T 0 0, T, G, ?_, ?_, h⟩
    · rw [fX5_feed_c41, if_pos hn]; rfl
    · rw [fX6_feed_c38, if_pos hn, h.tape]; rfl
  | succ i ih =>
    intro fuel T G tl h hi ht htl hf
    obtain ⟨f, rfl⟩ : ∃ f, fuel = f + 1 := ⟨fuel - 1, by omega⟩
    have hg2 : G 0 2 = nI tl := by rw [← h.tape]; exact ht
    have eb : ((x.toUInt32 >>> (((8 : Int32) * nI i).toUInt32 &&& Int32.toUInt32 31)).toInt32) &&& 255 = (x >>> (((8 : Int32) * nI i) &&& 31)) &&& 255 := by
      rcases (show i = 0 ∨ i = 1 ∨ i = 2 ∨ i = 3 by omega) with rfl | rfl | rfl | rfl
      · exact fb0 x
      · exact fb1 x
      · exact fb2 x
      · exact fb3 x
    obtain ⟨b, hb, e2⟩ := by_nat (x >>> (((8 : Int32) * nI i) &&& 31))
    have h' := h.app ht (show tl < 120 by omega) hb
    obtain ⟨r, T', G', q1, q2, q3⟩ := ih f h' (by omega) (tl := tl + 1) (by rw [st2_eq, upd_eq]) (by omega) (by omega)
    refine ⟨r, T', G', ?_, ?_, q3⟩
    · rw [fX5_feed_c41, en_s, if_neg (i_nneg (by omega)), eb, e2]
      unfold fX3_append fX3_append_c29
      rw [ht, if_neg (show ¬ (120 : Int32) ≤ nI tl from i_nle (a := 120) (by decide) (by omega) (by omega)), g_inb (by omega) (by omega), n_cl (by omega), letb_eq, st2_ne _ _ (show 0 ≠ 1 by decide), ht, show nI tl + (1 : Int32) = nI (tl + 1) from n_add tl 1, letb_eq, bind_eq, letb_eq]
      exact q1
    · rw [fX6_feed_c38, en_s, if_neg (i_nneg (by omega)), hg2, g_inb (by omega) (by omega), n_cl (by omega), e2, letb_eq, st2_ne _ _ (show 0 ≠ 5 by decide), hg2, show nI tl + (1 : Int32) = nI (tl + 1) from n_add tl 1, letb_eq, letb_eq]
      exact q2
theorem Rel.tlen (h : Rel R1 R2 R3 K T SN SZ F G J) : ∃ tl, tl ≤ 120 ∧ T 0 0 = nI tl ∧ G 0 2 = nI tl := by
  obtain ⟨h1, ⟨t, htt, e1, e2, e3, e4⟩, h3, h4⟩ := h
  exact ⟨t, htt, e1, e2⟩
theorem e_feed (h : Rel R1 R2 R3 K T SN SZ F G J) (x1 x2 : Int32) : ∃ r T' F' G', fX5_feed x1 x2 R1 R2 R3 K T SN SZ F = some (r, T', F') ∧ fX6_feed x1 x2 G J = some (r, G') ∧ Rel R1 R2 R3 K T' SN SZ F' G' J := by
  unfold fX5_feed fX6_feed
  by_cases hp : (1 : Int32) ≤ x2 ∧ x2 ≤ 4
  · obtain ⟨n, hn1, hn2, rfl⟩ := rng (a := 1) (b := 4) (by decide) (by decide) hp
    obtain ⟨tl, htl, t1, t2⟩ := h.tlen
    rw [within_true hp, bind_eq, ifn10, in_true hp, bind_eq, ifn10, t1, t2, n_add]
    by_cases hc : tl + n ≤ 120
    · have hc' : nI (tl + n) ≤ (120 : Int32) := i_le (b := 120) (by omega) (by decide) hc
      obtain ⟨r, T', G', q1, q2, q3⟩ := feed_lp x1 n FU h hn2 t1 hc (by rw [FU_eq]; omega)
      have es : nI n - (1 : Int32) = nI n + -1 := Int32.sub_eq_add_neg ..
      rw [if_pos hc', if_pos hc', letb_eq, letb_eq, es]
      exact ⟨r, T', F, G', q1, q2, q3⟩
    · have hc' : ¬ nI (tl + n) ≤ (120 : Int32) := i_nle (b := 120) (by omega) (by decide) (by omega)
      rw [if_neg hc', if_neg hc', c_tell1, m_find1, bind2_eq, bind2_eq]
      exact ⟨_, _, _, _, rfl, rfl, h.find 1⟩
  · rw [within_false hp, bind_eq, ifp00, in_false hp, bind_eq, ifp00, c_tell0, m_find0, bind2_eq, bind2_eq]
    exact ⟨_, _, _, _, rfl, rfl, h.find 0⟩
end FE
