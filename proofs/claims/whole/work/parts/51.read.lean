section RE
variable {R1 R2 R3 : M2} {K : Int32} {T : M2} {SN : J2} {SZ : M2} {F : M1} {G : M2} {J : J2}
theorem lg0 (a b : Int64) : lg_cmp a b = 0 ↔ a = b := by
  unfold lg_cmp
  by_cases e : a = b
  · subst e
    rw [if_neg (fun hh => Int64.lt_irrefl hh), if_pos rfl]
    exact ⟨fun _ => rfl, fun _ => rfl⟩
  · constructor
    · intro hh
      split at hh
      · exact absurd hh (by decide)
      · exact absurd hh (by decide)
    · intro hh; exact absurd hh e
/-- the sheet's numbers P are the words of k, day after day -/
def rd (P : Nat → Int64) (k : Nat) : Rw → Nat → Nat → Bool
  | _, 0, _ => true
  | S, m + 1, i => decide (P i = (nI (S (38 + 5 * k))).toInt64) && rd P k (dayS S).1 m (i + 1)
theorem c_reads {P : Nat → Int64} {q k z : Nat} (hk : k < 8) (hz : z ≤ 40) (h1 : SZ q 1 = nI z) (hP : ∀ i, i < 40 → SN q i = P i) : ∀ m i fuel {D : Nat} {S : Rw} {ut dt : Int32}, i + m = z → m < fuel → Inv D S → D + m < 99998 → ∃ S' u' d', fX5_trialReads_c2 fuel q (nI k) (nI i) R1 (encL S ut dt) R3 K T SN SZ F = some (if rd P k S m i = true then 1 else 0, encL S' u' d') := by
  intro m
  induction m with
  | zero =>
    intro i fuel D S ut dt hi hf hI hD
    obtain ⟨f, rfl⟩ : ∃ f, fuel = f + 1 := ⟨fuel - 1, by omega⟩
    refine ⟨S, ut, dt, ?_⟩
    rw [fX5_trialReads_c2, h1, if_pos (i_le (by omega) (by omega) (by omega))]
    rfl
  | succ m ih =>
    intro i fuel D S ut dt hi hf hI hD
    obtain ⟨f, rfl⟩ : ∃ f, fuel = f + 1 := ⟨fuel - 1, by omega⟩
    rw [fX5_trialReads_c2, h1, if_neg (i_nle (by omega) (by omega) (by omega)), g_inb (a := k) (by omega) (by omega), g_inb (a := i) (by omega) (by omega), n_cl (a := k) (by omega), n_cl (a := i) (by omega), encL_5 hk, hP i (by omega)]
    show ∃ S' u' d', _ = some (if (decide (P i = (nI (S (38 + 5 * k))).toInt64) && rd P k (dayS S).1 m (i + 1)) = true then 1 else 0, _)
    by_cases e : P i = (nI (S (38 + 5 * k))).toInt64
    · obtain ⟨S', u', d', q1⟩ := ih (i + 1) f (S := (dayS S).1) (ut := upI (dayS S)) (dt := eB (dayS S).2.2) (by omega) (by omega) (day_inv hI (by omega)) (by omega)
      refine ⟨S', u', d', ?_⟩
      rw [if_pos ((lg0 _ _).mpr e.symm), c_day hI (by omega), bind_eq, letb_eq, show nI i + (1 : Int32) = nI (i + 1) from n_add i 1, q1, decide_eq_true e, Bool.true_and]
    · refine ⟨S, ut, dt, ?_⟩
      rw [if_neg (fun hh => e ((lg0 _ _).mp hh).symm), decide_eq_false e, Bool.false_and]
      rfl
theorem m_so {P : Nat → Int64} {H : M2} {q k z : Nat} (hq : q < 4) (hk : k < 8) (hz : z ≤ 40) (h7 : H 7 q = nI z) (hP : ∀ i, i < 40 → J 1 (40 * q + i) = P i) : ∀ m i fuel {D : Nat} {S : Rw} {c w : Int32}, i + m = z → m + 1 < fuel → Inv D S → D + m < 99998 → ∃ S' c' w', fX6_isSo_c5 fuel (nI q) (nI k) 1 (nI i) (mG (cw H c w) S) J = some (if rd P k S m i = true then 1 else 0, mG (cw H c' w') S') := by
  have e7 : ∀ (S : Rw) (c w : Int32), mG (cw H c w) S 7 q = nI z := by
    intro S c w
    rw [mG_a (by decide), cw_a _ _ _ (by decide), h7]
  intro m
  induction m with
  | zero =>
    intro i fuel D S c w hi hf hI hD
    obtain ⟨f, rfl⟩ : ∃ f, fuel = f + 1 := ⟨fuel - 1, by omega⟩
    refine ⟨S, c, w, ?_⟩
    rw [fX6_isSo_c5, g_inb (a := q) (by omega) (by omega), n_cl (a := q) (by omega), e7, if_pos (i_le (by omega) (by omega) (by omega))]
    rfl
  | succ m ih =>
    intro i fuel D S c w hi hf hI hD
    obtain ⟨f, rfl⟩ : ∃ f, fuel = f + 1 + 1 := ⟨fuel - 2, by omega⟩
    have ei : fX6_its (nI k) (3 : Int32) (mG (cw H c w) S) J = some (nI (S (38 + 5 * k))) := m_its3 hk
    rw [fX6_isSo_c5, g_inb (a := q) (by omega) (by omega), n_cl (a := q) (by omega), e7, if_neg (i_nle (by omega) (by omega) (by omega)), ifn10, n_40k, g_inb (a := 40 * q + i) (by omega) (by omega), n_cl (a := 40 * q + i) (by omega), ei, bind_eq, hP i (by omega)]
    unfold fX6_isSo_c48
    rw [m_day hI (by omega), bind_eq, bind_eq, letb_eq, letb_eq, cw_cw, show nI i + (1 : Int32) = nI (i + 1) from n_add i 1]
    show ∃ S' c' w', _ = some (if (decide (P i = (nI (S (38 + 5 * k))).toInt64) && rd P k (dayS S).1 m (i + 1)) = true then 1 else 0, _)
    by_cases e : P i = (nI (S (38 + 5 * k))).toInt64
    · rw [if_pos ((lg0 _ _).mpr e), decide_eq_true e, Bool.true_and]
      exact ih (i + 1) (f + 1) (by omega) (by omega) (day_inv hI (by omega)) (by omega)
    · refine ⟨(dayS S).1, eB (dayS S).2.1, eB (dayS S).2.2, ?_⟩
      rw [if_neg (fun hh => e ((lg0 _ _).mp hh)), decide_eq_false e, Bool.false_and, fX6_isSo_c5, g_inb (a := q) (by omega) (by omega), ifp00]
      unfold fX6_isSo_c59
      split <;> rfl
end RE
