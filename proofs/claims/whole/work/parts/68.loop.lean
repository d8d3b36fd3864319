theorem and63 (x : Int32) : ∃ k, k < 64 ∧ x &&& 63 = nI k := by
  refine ⟨(x.toBitVec &&& 63#32).toNat, ?_, ?_⟩
  · rw [BitVec.toNat_and]
    exact Nat.lt_of_le_of_lt Nat.and_le_right (by decide)
  · apply Int32.toBitVec_inj.mp
    show x.toBitVec &&& 63#32 = BitVec.ofNat 32 (x.toBitVec &&& 63#32).toNat
    rw [BitVec.ofNat_toNat, BitVec.setWidth_eq]
theorem i_sub6 {a : Nat} (ha : a < 4000) : (nI a - 6).toInt = (a : Int) - 6 := by
  rw [n_6, pk_sub_toInt (by omega) (by decide)]
  rfl
section LD
variable {p : Program} {l : Launch} {e : Env} {s : State} {m : MethodId} {below : List Frame} {meth : Method} {c : Code} {b L : Nat} {xs : Nat → Int32} {g : Gl} {ax am : Nat → Nat}
set_option maxHeartbeats 4000000 in
set_option maxRecDepth 100000 in
theorem law_head {i : Nat} (hc : Lc p s m meth c b L xs g) (hi : i ≤ 4000) (kk : i + 6 ≤ L → Kk p l e s m below meth c b g ax am i 1312) : Kk p l e s m below meth c b g ax am i 18 := by
  intro R1 R2 R3 K T SN SZ F G J h H locs ls hH hl
  obtain ⟨C, hE, hX, hbl, hL⟩ := id hc
  obtain ⟨hx, hb, hml, hown, hT, hr, hlk⟩ := id C
  have hbA : ¬ aH s b := Nat.not_le.mpr hbl
  refine lv_iload_n hx hb dL_law_18 rfl (lv_at hl 3 rfl) ?_
  refine lv_aload_n hx hb dL_law_19 rfl (lv_at hl 0 rfl) ?_
  refine va_slen hx hb hX hbl hbA hH.2.2 dL_law_20 ?_
  refine lv_bipush (v := 6) hx hb dL_law_21 (by decide) ?_
  refine lv_isub hx hb dL_law_23 ?_
  refine lv_icmp_gt (tgt := 1318) hx hb dL_law_24 (by decide) (fun c9 => ?_) (fun c9 => ?_)
  · refine lv_iconst (v := 1) hx hb dL_law_1318 (by decide) ?_
    refine va_forget (fun q hq => hH.2.2.2.2 q hq) ?_
    refine W.widen (k := 600000) (n := 7302250) (Nat.le_of_ble_eq_true rfl) (Nat.le_of_ble_eq_true rfl) ?_
    exact lw_ret hx hb hr hlk dL_law_1319
  · have hiL : i + 6 ≤ L := by
      have c10 : nI i ≤ nI L - 6 := Int32.not_lt.mp c9
      rw [fa_le, nI_toInt (by omega), i_sub6 (by omega)] at c10
      omega
    have kk := kk hiL
    refine lv_aload_n hx hb dL_law_27 rfl (lv_at hl 0 rfl) ?_
    refine lv_iload_n hx hb dL_law_28 rfl (lv_at hl 3 rfl) ?_
    refine va_sld hx hb hX hbl hbA hH.2.2 (inb_in (n_inb (by omega) (by omega))) dL_law_29 ?_
    rw [n_cl (by omega)]
    refine lv_bipush (v := 63) hx hb dL_law_30 (by decide) ?_
    refine lv_iand hx hb dL_law_32 ?_
    obtain ⟨k, hk, ek⟩ := and63 (xs i)
    rw [ek]
    rcases (show k = 0 ∨ k = 1 ∨ k = 2 ∨ k = 3 ∨ k = 4 ∨ k = 5 ∨ k = 6 ∨ k = 7 ∨ k = 8 ∨ k = 9 ∨ k = 10 ∨ k = 11 ∨ k = 12 ∨ k = 13 ∨ k = 14 ∨ k = 15 ∨ k = 16 ∨ k = 17 ∨ k = 18 ∨ k = 19 ∨ k = 20 ∨ k = 21 ∨ k = 22 ∨ k = 23 ∨ k = 24 ∨ k = 25 ∨ k = 26 ∨ k = 27 ∨ k = 28 ∨ k = 29 ∨ k = 30 ∨ k = 31 ∨ k = 32 ∨ k = 33 ∨ k = 34 ∨ k = 35 ∨ k = 36 ∨ k = 37 ∨ k = 38 ∨ 39 ≤ k by omega) with rfl | rfl | rfl | rfl | rfl | rfl | rfl | rfl | rfl | rfl | rfl | rfl | rfl | rfl | rfl | rfl | rfl | rfl | rfl | rfl | rfl | rfl | rfl | rfl | rfl | rfl | rfl | rfl | rfl | rfl | rfl | rfl | rfl | rfl | rfl | rfl | rfl | rfl | rfl | hk9
    · exact lv_tableIn (tgt := 204) hx hb dL_law_33 (by decide) (by decide) rfl (by decide) (lc_sea hc hiL kk _ _ _ _ _ _ _ _ _ _ h _ _ ls hH hl)
    · exact lv_tableIn (tgt := 237) hx hb dL_law_33 (by decide) (by decide) rfl (by decide) (lc_day hc hiL kk _ _ _ _ _ _ _ _ _ _ h _ _ ls hH hl)
    · exact lv_tableIn (tgt := 270) hx hb dL_law_33 (by decide) (by decide) rfl (by decide) (lc_light hc hiL kk _ _ _ _ _ _ _ _ _ _ h _ _ ls hH hl)
    · exact lv_tableIn (tgt := 303) hx hb dL_law_33 (by decide) (by decide) rfl (by decide) (lc_keeper hc hiL kk _ _ _ _ _ _ _ _ _ _ h _ _ ls hH hl)
    · exact lv_tableIn (tgt := 326) hx hb dL_law_33 (by decide) (by decide) rfl (by decide) (lc_of hc hiL kk _ _ _ _ _ _ _ _ _ _ h _ _ ls hH hl)
    · exact lv_tableIn (tgt := 359) hx hb dL_law_33 (by decide) (by decide) rfl (by decide) (lc_can hc hiL kk _ _ _ _ _ _ _ _ _ _ h _ _ ls hH hl)
    · exact lv_tableIn (tgt := 402) hx hb dL_law_33 (by decide) (by decide) rfl (by decide) (lc_set hc hiL kk _ _ _ _ _ _ _ _ _ _ h _ _ ls hH hl)
    · exact lv_tableIn (tgt := 445) hx hb dL_law_33 (by decide) (by decide) rfl (by decide) (lc_turn hc hiL kk _ _ _ _ _ _ _ _ _ _ h _ _ ls hH hl)
    · exact lv_tableIn (tgt := 478) hx hb dL_law_33 (by decide) (by decide) rfl (by decide) (lc_as hc hiL kk _ _ _ _ _ _ _ _ _ _ h _ _ ls hH hl)
    · exact lv_tableIn (tgt := 511) hx hb dL_law_33 (by decide) (by decide) rfl (by decide) (lc_days hc hiL kk _ _ _ _ _ _ _ _ _ _ h _ _ ls hH hl)
    · exact lv_tableIn (tgt := 534) hx hb dL_law_33 (by decide) (by decide) rfl (by decide) (lc_now hc hiL kk _ _ _ _ _ _ _ _ _ _ h _ _ ls hH hl)
    · exact lv_tableIn (tgt := 557) hx hb dL_law_33 (by decide) (by decide) rfl (by decide) (lc_on hc hiL kk _ _ _ _ _ _ _ _ _ _ h _ _ ls hH hl)
    · exact lv_tableIn (tgt := 600) hx hb dL_law_33 (by decide) (by decide) rfl (by decide) (lc_oil hc hiL kk _ _ _ _ _ _ _ _ _ _ h _ _ ls hH hl)
    · exact lv_tableIn (tgt := 623) hx hb dL_law_33 (by decide) (by decide) rfl (by decide) (lc_relief hc hiL kk _ _ _ _ _ _ _ _ _ _ h _ _ ls hH hl)
    · exact lv_tableIn (tgt := 636) hx hb dL_law_33 (by decide) (by decide) rfl (by decide) (lc_ashore hc hiL kk _ _ _ _ _ _ _ _ _ _ h _ _ ls hH hl)
    · exact lv_tableIn (tgt := 659) hx hb dL_law_33 (by decide) (by decide) rfl (by decide) (lc_knows hc hiL kk _ _ _ _ _ _ _ _ _ _ h _ _ ls hH hl)
    · exact lv_tableIn (tgt := 692) hx hb dL_law_33 (by decide) (by decide) rfl (by decide) (lc_dark hc hiL kk _ _ _ _ _ _ _ _ _ _ h _ _ ls hH hl)
    · exact lv_tableIn (tgt := 705) hx hb dL_law_33 (by decide) (by decide) rfl (by decide) (lc_meet hc hiL kk _ _ _ _ _ _ _ _ _ _ h _ _ ls hH hl)
    · exact lv_tableIn (tgt := 738) hx hb dL_law_33 (by decide) (by decide) rfl (by decide) (lc_rock hc hiL kk _ _ _ _ _ _ _ _ _ _ h _ _ ls hH hl)
    · exact lv_tableIn (tgt := 761) hx hb dL_law_33 (by decide) (by decide) rfl (by decide) (lc_kind hc hiL kk _ _ _ _ _ _ _ _ _ _ h _ _ ls hH hl)
    · exact lv_tableIn (tgt := 794) hx hb dL_law_33 (by decide) (by decide) rfl (by decide) (lc_enough hc hiL kk _ _ _ _ _ _ _ _ _ _ h _ _ ls hH hl)
    · exact lv_tableIn (tgt := 817) hx hb dL_law_33 (by decide) (by decide) rfl (by decide) (lc_beds hc hiL kk _ _ _ _ _ _ _ _ _ _ h _ _ ls hH hl)
    · exact lv_tableIn (tgt := 840) hx hb dL_law_33 (by decide) (by decide) rfl (by decide) (lc_storm hc hiL kk _ _ _ _ _ _ _ _ _ _ h _ _ ls hH hl)
    · exact lv_tableIn (tgt := 853) hx hb dL_law_33 (by decide) (by decide) rfl (by decide) (lc_change hc hiL kk _ _ _ _ _ _ _ _ _ _ h _ _ ls hH hl)
    · exact lv_tableIn (tgt := 876) hx hb dL_law_33 (by decide) (by decide) rfl (by decide) (lc_heard hc hiL kk _ _ _ _ _ _ _ _ _ _ h _ _ ls hH hl)
    · exact lv_tableIn (tgt := 909) hx hb dL_law_33 (by decide) (by decide) rfl (by decide) (lc_feed hc hiL kk _ _ _ _ _ _ _ _ _ _ h _ _ ls hH hl)
    · exact lv_tableIn (tgt := 942) hx hb dL_law_33 (by decide) (by decide) rfl (by decide) (lc_wipe hc hiL kk _ _ _ _ _ _ _ _ _ _ h _ _ ls hH hl)
    · exact lv_tableIn (tgt := 955) hx hb dL_law_33 (by decide) (by decide) rfl (by decide) (lc_text hc hiL kk _ _ _ _ _ _ _ _ _ _ h _ _ ls hH hl)
    · exact lv_tableIn (tgt := 968) hx hb dL_law_33 (by decide) (by decide) rfl (by decide) (lc_sheet hc hiL kk _ _ _ _ _ _ _ _ _ _ h _ _ ls hH hl)
    · exact lv_tableIn (tgt := 1011) hx hb dL_law_33 (by decide) (by decide) rfl (by decide) (lc_write hc hiL kk _ _ _ _ _ _ _ _ _ _ h _ _ ls hH hl)
    · exact lv_tableIn (tgt := 1085) hx hb dL_law_33 (by decide) (by decide) rfl (by decide) (lc_copy hc hiL kk _ _ _ _ _ _ _ _ _ _ h _ _ ls hH hl)
    · exact lv_tableIn (tgt := 1148) hx hb dL_law_33 (by decide) (by decide) rfl (by decide) (lc_lays hc hiL kk _ _ _ _ _ _ _ _ _ _ h _ _ ls hH hl)
    · exact lv_tableIn (tgt := 1171) hx hb dL_law_33 (by decide) (by decide) rfl (by decide) (lc_book hc hiL kk _ _ _ _ _ _ _ _ _ _ h _ _ ls hH hl)
    · exact lv_tableIn (tgt := 1194) hx hb dL_law_33 (by decide) (by decide) rfl (by decide) (lc_read hc hiL kk _ _ _ _ _ _ _ _ _ _ h _ _ ls hH hl)
    · exact lv_tableIn (tgt := 1227) hx hb dL_law_33 (by decide) (by decide) rfl (by decide) (lc_image hc hiL kk _ _ _ _ _ _ _ _ _ _ h _ _ ls hH hl)
    · exact lv_tableIn (tgt := 1240) hx hb dL_law_33 (by decide) (by decide) rfl (by decide) (lc_undo hc hiL kk _ _ _ _ _ _ _ _ _ _ h _ _ ls hH hl)
    · exact lv_tableIn (tgt := 1253) hx hb dL_law_33 (by decide) (by decide) rfl (by decide) (lc_tear hc hiL kk _ _ _ _ _ _ _ _ _ _ h _ _ ls hH hl)
    · exact lv_tableIn (tgt := 1266) hx hb dL_law_33 (by decide) (by decide) rfl (by decide) (lc_count hc hiL kk _ _ _ _ _ _ _ _ _ _ h _ _ ls hH hl)
    · exact lv_tableIn (tgt := 1289) hx hb dL_law_33 (by decide) (by decide) rfl (by decide) (lc_status hc hiL kk _ _ _ _ _ _ _ _ _ _ h _ _ ls hH hl)
    · refine lv_tableOut (tgt := 1312) hx hb dL_law_33 (by rw [nI_toInt (by omega)]; omega) (by decide) ?_
      exact kk _ _ _ _ _ _ _ _ _ _ h _ _ ls hH hl
theorem law_lp (hc : Lc p s m meth c b L xs g) : ∀ n i, i ≤ 4000 → L < i + n → Kk p l e s m below meth c b g ax am i 18 := by
  have hL := hc.2.2.2.2
  intro n
  induction n with
  | zero => intro i hi hn; exact law_head hc hi (fun hh => absurd hh (by omega))
  | succ n ih =>
    intro i hi hn
    refine law_head hc hi (fun hiL => ?_)
    intro R1 R2 R3 K T SN SZ F G J h H locs ls hH hl
    obtain ⟨C, hE, hX, hbl, hL⟩ := id hc
    obtain ⟨hx, hb, hml, hown, hT, hr, hlk⟩ := id C
    refine lv_iinc (v := nI (i + 6)) (lv' := [(3, .int (nI (i + 6))), (0, .ref b), (1, .ref (ax 0)), (2, .ref (am 0))]) hx hb dL_law_1312 hl (k := 3) rfl (n_add i 6) (by decide) rfl (fun ls hl => ?_)
    refine lv_goto (tgt := 18) hx hb dL_law_1315 (by decide) ?_
    exact ih (i + 6) (by omega) (by omega) _ _ _ _ _ _ _ _ _ _ h _ _ ls hH (lv_sub hl [1, 2, 3, 0] rfl)
end LD
-- ===== the relation at the start =====
def R0 : Rw := fun j => if j = 1 then 9 else if j = 2 then 100 else if j = 3 then 2 else if 7 ≤ j ∧ j < 35 then 5 * (j - 7) % 13 else 0
theorem R0_z {j : Nat} (h : j = 0 ∨ j = 4 ∨ j = 5 ∨ j = 6 ∨ 35 ≤ j) : R0 j = 0 := by
  unfold R0
  rw [if_neg (by omega), if_neg (by omega), if_neg (by omega), if_neg (by omega)]
theorem R0_s {j : Nat} (h : j < 28) : R0 (7 + j) = 5 * j % 13 := by
  unfold R0
  rw [if_neg (by omega), if_neg (by omega), if_neg (by omega), if_pos (by omega), show 7 + j - 7 = j by omega]
theorem L0_enc : L0 = encL R0 (-1) (-1) := by
  funext a i
  rcases (show a = 0 ∨ a = 1 ∨ (2 ≤ a ∧ a < 7) ∨ 7 ≤ a by omega) with h | h | h | h
  · subst h
    show (if i = 1 then (9 : Int32) else if i = 2 then 100 else if i = 3 then 2 else if i = 7 then -1 else if i = 8 then -1 else 0) = (if i < 7 then nI (R0 i) else if i = 7 then -1 else if i = 8 then -1 else 0)
    rcases (show i = 0 ∨ i = 1 ∨ i = 2 ∨ i = 3 ∨ i = 4 ∨ i = 5 ∨ i = 6 ∨ i = 7 ∨ i = 8 ∨ 9 ≤ i by omega) with h | h | h | h | h | h | h | h | h | h
    · subst h; rfl
    · subst h; rfl
    · subst h; rfl
    · subst h; rfl
    · subst h; rfl
    · subst h; rfl
    · subst h; rfl
    · subst h; rfl
    · subst h; rfl
    · rw [if_neg (by omega), if_neg (by omega), if_neg (by omega), if_neg (by omega), if_neg (by omega), if_neg (by omega)]
  · subst h
    show seaI 28 i = (if i < 28 then nI (R0 (7 + i)) else 0)
    unfold seaI
    by_cases hi : i < 28
    · rw [if_pos hi, if_pos hi, R0_s hi]
    · rw [if_neg hi, if_neg hi]
  · have e1 : L0 a i = 0 := by
      unfold L0
      rw [if_neg (by omega), if_neg (by omega)]
    rw [e1, encL_rk h.1 h.2]
    show (0 : Int32) = if i < 8 then nI (R0 (35 + 5 * i + (a - 2))) else 0
    rw [R0_z (by omega)]
    split <;> rfl
  · have e1 : L0 a i = 0 := by
      unfold L0
      rw [if_neg (by omega), if_neg (by omega)]
    rw [e1, encL_rb h]
theorem G0_enc : rowI 28 = encG R0 := by
  funext j
  unfold rowI encG R0
  by_cases h1 : j = 1
  · subst h1; rfl
  · by_cases h2 : j = 2
    · subst h2; rfl
    · by_cases h3 : j = 3
      · subst h3; rfl
      · rw [if_neg h1, if_neg h2, if_neg h3, if_neg h1, if_neg h2, if_neg h3]
        by_cases h4 : 7 ≤ j ∧ j < 35
        · rw [if_pos h4, if_pos h4, if_pos (by omega)]
        · rw [if_neg h4, if_neg h4]
          split <;> rfl
theorem Z_enc : (fun _ => 0 : M1) = encG (fun _ => 0) := by
  funext j
  unfold encG
  split <;> rfl
theorem R0_inv : Inv 9999 R0 := by
  refine ⟨fun j hj => ?_, by decide, by decide⟩
  rcases (show (j = 1) ∨ (j = 2) ∨ (j = 3) ∨ (7 ≤ j ∧ j < 35) ∨ (j = 0 ∨ j = 4 ∨ j = 5 ∨ j = 6 ∨ 35 ≤ j) by omega) with h | h | h | h | h
  · subst h; decide
  · subst h; decide
  · subst h; decide
  · obtain ⟨i, rfl⟩ : ∃ i, j = 7 + i := ⟨j - 7, by omega⟩
    rw [R0_s (by omega), bnd_sea (by omega)]
    omega
  · rw [R0_z h]; exact Nat.zero_le _
theorem rel0 : Rel L0 L0 L0 0 T0 Y2 Z2 Z1 G0 Y2 := by
  refine ⟨⟨R0, -1, -1, R0, -1, -1, R0, -1, -1, fun _ => 0, fun _ => 0, fun _ => 0, fun _ => 0, R0_inv, L0_enc, L0_enc, L0_enc, G0_enc, Z_enc, Z_enc, Z_enc, Z_enc, Or.inl rfl, rfl, fun h => absurd h (by decide)⟩, ⟨0, by omega, rfl, rfl, fun j _ => rfl, fun j _ => ⟨0, by omega, rfl⟩⟩, ⟨fun k _ => ⟨rfl, rfl, Or.inl rfl, 0, by omega, rfl, fun _ => rfl⟩, fun k i _ _ => rfl⟩, rfl⟩
