theorem ts_z0 : Cond.laysStatic "ReliefGales$Kinds" "ABOVE" "[I" ∈ lw_tbl := TB_2 _ (List.mem_of_getElem? (i := 8) rfl)
theorem ts_z1 : Cond.laysStatic "ReliefGales" "LEAST" "[I" ∈ lw_tbl := TB_1 _ (List.mem_of_getElem? (i := 199) rfl)
theorem ts_z2 : Cond.laysStatic "ReliefGales" "MOST" "[I" ∈ lw_tbl := TB_1 _ (List.mem_of_getElem? (i := 201) rfl)
theorem ts_z3 : Cond.laysStatic "java/lang/String" "COMPACT_STRINGS" "Z" ∈ lw_tbl := TB_3 _ (List.mem_of_getElem? (i := 24) rfl)
theorem ts_z4 : Cond.laysStatic "jdk/internal/util/Preconditions" "SIOOBE_FORMATTER" "Ljava/util/function/BiFunction;" ∈ lw_tbl := TB_3 _ (List.mem_of_getElem? (i := 40) rfl)
theorem ts_n0 : Cond.methodLinkNest RX5 28 yX3_init RX5 ∈ lw_tbl := TB_1 _ (List.mem_of_getElem? (i := 93) rfl)
theorem ts_n1 : Cond.methodLinkNest RX5 39 yX2_init RX5 ∈ lw_tbl := TB_1 _ (List.mem_of_getElem? (i := 122) rfl)
theorem ts_n2 : Cond.methodLinkNest RX1 78 yX5_within RX5 ∈ lw_tbl := TB_1 _ (List.mem_of_getElem? (i := 235) rfl)
theorem ts_n3 : Cond.methodLinkNest RX2 28 yX5_within RX5 ∈ lw_tbl := TB_3 _ (List.mem_of_getElem? (i := 137) rfl)
theorem ts_n4 : Cond.methodLinkNest RX3 57 yX5_within RX5 ∈ lw_tbl := TB_3 _ (List.mem_of_getElem? (i := 88) rfl)
theorem ts_n5 : Cond.methodLinkNest RX4 56 yX5_within RX5 ∈ lw_tbl := TB_3 _ (List.mem_of_getElem? (i := 98) rfl)
theorem ts_f0 : Cond.fieldLinkNest RX4 60 "ReliefGales" "LEAST" "[I" RX5 ∈ lw_tbl := TB_3 _ (List.mem_of_getElem? (i := 99) rfl)
theorem ts_f1 : Cond.fieldLinkNest RX4 64 "ReliefGales" "MOST" "[I" RX5 ∈ lw_tbl := TB_3 _ (List.mem_of_getElem? (i := 100) rfl)
theorem ts_s0 : Cond.stringRef RX4 77 "keeper" ∈ lw_tbl := TB_3 _ (List.mem_of_getElem? (i := 10) rfl)
theorem ts_s1 : Cond.stringRef RX4 82 "brother" ∈ lw_tbl := TB_3 _ (List.mem_of_getElem? (i := 63) rfl)
theorem ts_s2 : Cond.stringRef RX4 84 "old" ∈ lw_tbl := TB_3 _ (List.mem_of_getElem? (i := 64) rfl)
theorem ts_s3 : Cond.stringRef RX4 86 "new" ∈ lw_tbl := TB_3 _ (List.mem_of_getElem? (i := 65) rfl)
theorem ts_s4 : Cond.stringRef RX4 88 "twin" ∈ lw_tbl := TB_3 _ (List.mem_of_getElem? (i := 66) rfl)
theorem ts_s5 : Cond.stringRef RX4 90 "mate" ∈ lw_tbl := TB_3 _ (List.mem_of_getElem? (i := 67) rfl)
theorem ts_s6 : Cond.stringRef RX4 96 "on" ∈ lw_tbl := TB_3 _ (List.mem_of_getElem? (i := 73) rfl)
theorem ts_s7 : Cond.stringRef RX4 101 "knows" ∈ lw_tbl := TB_3 _ (List.mem_of_getElem? (i := 80) rfl)
theorem ts_s8 : Cond.stringRef RX4 38 "sea" ∈ lw_tbl := TB_3 _ (List.mem_of_getElem? (i := 90) rfl)
theorem ts_s9 : Cond.stringRef RX4 47 "rock" ∈ lw_tbl := TB_3 _ (List.mem_of_getElem? (i := 94) rfl)
theorem ts_s10 : Cond.stringRef RX4 52 "oil" ∈ lw_tbl := TB_3 _ (List.mem_of_getElem? (i := 102) rfl)
theorem ts_s11 : Cond.stringRef RX4 54 "beds" ∈ lw_tbl := TB_3 _ (List.mem_of_getElem? (i := 103) rfl)
theorem ts_ao : Cond.arrayOver (.object RX2) ∈ lw_tbl := TB_1 _ (List.mem_of_getElem? (i := 120) rfl)
def FL : List Cond := flatC (Jvm.Cond.and given_1 narrow_1)
def tmS (i : Nat) : Term := Term.string RX4 (([77, 82, 84, 86, 88, 90, 96, 101, 38, 47, 52, 54] : List Nat).getD i 0)
def tmA : Term := Term.static "ReliefGales$Kinds" "ABOVE" "[I"
def tmL : Term := Term.static "ReliefGales" "LEAST" "[I"
def tmM : Term := Term.static "ReliefGales" "MOST" "[I"
set_option maxRecDepth 100000 in
theorem fl_A1 : Cond.arrayOf tmA .int ∈ FL := by decide +kernel
set_option maxRecDepth 100000 in
theorem fl_A2 : Cond.eq (.length tmA) (.int (Int32.ofNat 6)) ∈ FL := by decide +kernel
set_option maxRecDepth 100000 in
theorem fl_A3 : ∀ j, j < 6 → Cond.eq (.elem tmA (.int (Int32.ofNat j))) (.int (tabA j)) ∈ FL := by decide +kernel
set_option maxRecDepth 100000 in
theorem fl_L1 : Cond.arrayOf tmL .int ∈ FL := by decide +kernel
set_option maxRecDepth 100000 in
theorem fl_L2 : Cond.eq (.length tmL) (.int (Int32.ofNat 4)) ∈ FL := by decide +kernel
set_option maxRecDepth 100000 in
theorem fl_L3 : ∀ j, j < 4 → Cond.eq (.elem tmL (.int (Int32.ofNat j))) (.int (tabL j)) ∈ FL := by decide +kernel
set_option maxRecDepth 100000 in
theorem fl_M1 : Cond.arrayOf tmM .int ∈ FL := by decide +kernel
set_option maxRecDepth 100000 in
theorem fl_M2 : Cond.eq (.length tmM) (.int (Int32.ofNat 4)) ∈ FL := by decide +kernel
set_option maxRecDepth 100000 in
theorem fl_M3 : ∀ j, j < 4 → Cond.eq (.elem tmM (.int (Int32.ofNat j))) (.int (tabM j)) ∈ FL := by decide +kernel
set_option maxRecDepth 100000 in
theorem fl_C : Cond.eq (.static "java/lang/String" "COMPACT_STRINGS" "Z") (.int 1) ∈ FL := by decide +kernel
set_option maxRecDepth 100000 in
theorem fl_P : Cond.isRef (.static "jdk/internal/util/Preconditions" "SIOOBE_FORMATTER" "Ljava/util/function/BiFunction;") ∈ FL := by decide +kernel
set_option maxRecDepth 100000 in
theorem fl_s1 : ∀ i, i < nJS → Cond.exactly (tmS i) "java/lang/String" ∈ FL := by decide +kernel
set_option maxRecDepth 100000 in
theorem fl_s2 : ∀ i, i < nJS → Cond.eq (.field (tmS i) "java/lang/String" "coder" "B") (.int 0) ∈ FL := by decide +kernel
set_option maxRecDepth 100000 in
theorem fl_s3 : ∀ i, i < nJS → Cond.arrayOf (.field (tmS i) "java/lang/String" "value" "[B") .byte ∈ FL := by decide +kernel
set_option maxRecDepth 100000 in
theorem fl_s4 : ∀ i, i < nJS → Cond.eq (.length (.field (tmS i) "java/lang/String" "value" "[B")) (.int (Int32.ofNat (lenJS.getD i 0))) ∈ FL := by decide +kernel
set_option maxRecDepth 100000 in
theorem fl_s5 : ∀ i, i < nJS → ∀ j, j < lenJS.getD i 0 → Cond.eq (.elem (.field (tmS i) "java/lang/String" "value" "[B") (.int (Int32.ofNat j))) (.int ((bytJS.getD i []).getD j 0)) ∈ FL := by decide +kernel
set_option maxRecDepth 100000 in
theorem fl_s6 : ∀ i, i < nJS → ∀ j, j < nJS → i ≠ j → Cond.not (Cond.eq (tmS i) (tmS j)) ∈ FL ∨ Cond.not (Cond.eq (tmS j) (tmS i)) ∈ FL := by decide +kernel
theorem len_31 : ∀ i, i < nJS → lenJS.getD i 0 < 2 ^ 31 := by decide +kernel
theorem rf_of {v : Value} (h : v.isRef = true) : ∃ o : Option Nat, v = va_rf o := by
  cases v with
  | ref a => exact ⟨some a, rfl⟩
  | null => exact ⟨none, rfl⟩
  | _ => cases h
/-- the numbers of a run, and what holds at its start -/
theorem ev_start {s : State} {b : Nat} (hts : ∀ w ∈ lw_tbl, w.before #[Value.ref b] s = true) (hgv : (Jvm.Cond.and given_1 narrow_1).before #[Value.ref b] s = true) : ∃ g : Gl, Ev g (aH s) s s.heap := by
  have hw : ∀ w ∈ wsL_law, w.before #[Value.ref b] s = true := fun w h => hts w (TT_in w h)
  have hf : ∀ c ∈ FL, c.before #[Value.ref b] s = true := flat_of_before _ hgv
  have hA : ∀ a : Nat, a < s.heap.size → ¬ aH s a := fun a h => Nat.not_le.mpr h
  obtain ⟨c0, i0, k0⟩ := u_known (C := RX1) (T := TX1) (N := 15) (n := 15) hw inlX1 (hw _ tw_1_14)
  obtain ⟨c1, i1, k1⟩ := u_known (C := RX2) (T := TX2) (N := 3) (n := 3) hw inlX2 (hw _ tw_2_2)
  obtain ⟨c2, i2, k2⟩ := u_known (C := RX3) (T := TX3) (N := 6) (n := 6) hw inlX3 (hw _ tw_1_21)
  obtain ⟨c3, i3, k3⟩ := u_known (C := RX5) (T := TX5) (N := 7) (n := 7) hw inlX5 (hw _ tw_1_1)
  obtain ⟨c4, i4, k4⟩ := u_known (C := RX6) (T := TX6) (N := 21) (n := 21) hw inlX6 (hw _ tw_1_4)
  obtain ⟨cI, kI, mI, nI1, nI2, nI3⟩ := Cond.arrayClass_spec (hw _ tw_2_4)
  obtain ⟨cJ, kJ, mJ, nJ1, nJ2, nJ3⟩ := Cond.arrayClass_spec (hw _ tw_3_13)
  obtain ⟨mS, cS, kS, nS1, nS2, nS3, nS4, nS5⟩ := Cond.arrayOver_spec (hts _ ts_ao)
  obtain ⟨tA, eA, hTA⟩ := va_Tof (tm := tmA) (ty := .int) (N := 6) (f := fun j => .int (tabA j)) (A := aH s) (by decide) (hf _ fl_A1) (va_eqt (hf _ fl_A2)) (fun j hj => va_eqt (hf _ (fl_A3 j hj))) hA
  obtain ⟨tL, eL, hTL⟩ := va_Tof (tm := tmL) (ty := .int) (N := 4) (f := fun j => .int (tabL j)) (A := aH s) (by decide) (hf _ fl_L1) (va_eqt (hf _ fl_L2)) (fun j hj => va_eqt (hf _ (fl_L3 j hj))) hA
  obtain ⟨tM, eM, hTM⟩ := va_Tof (tm := tmM) (ty := .int) (N := 4) (f := fun j => .int (tabM j)) (A := aH s) (by decide) (hf _ fl_M1) (va_eqt (hf _ fl_M2)) (fun j hj => va_eqt (hf _ (fl_M3 j hj))) hA
  obtain ⟨v, ev, rv⟩ := Cond.isRef_spec (hf _ fl_P)
  obtain ⟨o, rfl⟩ := rf_of rv
  obtain ⟨adK, adV, hS, hSe⟩ := vk_Sof (N := nJS) (tm := tmS) (len := lenJS) (byt := bytJS) (A := aH s) len_31 (fun i hi => hf _ (fl_s1 i hi)) (fun i hi => hf _ (fl_s2 i hi)) (fun i hi => hf _ (fl_s3 i hi)) (fun i hi => hf _ (fl_s4 i hi)) (fun i hi j hj => hf _ (fl_s5 i hi j hj)) (fun i j hi hj hij => (fl_s6 i hi j hj hij).imp (fun q => hf _ q) (fun q => hf _ q)) hA
  refine ⟨((fun k => if k = 0 then c0 else if k = 1 then c1 else if k = 2 then c2 else if k = 3 then c3 else c4, fun k => if k = 0 then i0 else if k = 1 then i1 else if k = 2 then i2 else if k = 3 then i3 else i4), (cI, cJ, cS), adK, adV, (tA, tL, tM, o)), ⟨fun k q hq => ?_, fun k q hq => ?_⟩, ⟨⟨va_Zof (hts _ ts_z0) (hw _ tw_9_20) eA hA, hTA⟩, ⟨va_Zof (hts _ ts_z1) (hw _ tw_1_2) eL hA, hTL⟩, ⟨va_Zof (hts _ ts_z2) (hw _ tw_1_2) eM hA, hTM⟩, hS, va_Zof (hts _ ts_z3) (hw _ tw_28_4) (va_eqt (hf _ fl_C)) hA, va_Zof (hts _ ts_z4) (hw _ tw_29_7) ev hA⟩, ?_⟩
  · match k, hq with
    | 0, hq => cases hq; exact k0
    | 1, hq => cases hq; exact k1
    | 2, hq => cases hq; exact k2
    | 3, hq => cases hq; exact k3
    | 4, hq => cases hq; exact k4
    | k + 5, hq => cases hq
  · match k, hq with
    | 0, hq => cases hq; exact ⟨fun n z => ⟨fun k h => (by cases h), kI, nI2, mI, nI3⟩, nI1⟩
    | 1, hq => cases hq; exact ⟨fun n z => ⟨fun k h => (by cases h), kJ, nJ2, mJ, nJ3⟩, nJ1⟩
    | 2, hq => cases hq; exact ⟨fun n z => ⟨fun k h => (by cases h), kS, nS3, mS, nS4⟩, kS, mS, nS3, nS4, nS1, nS5⟩
    | k + 3, hq => cases hq
  · exact ⟨va_Nw.of rfl (hts _ ts_n0), va_Nw.of rfl (hts _ ts_n1), va_Nw.of rfl (hts _ ts_n2), va_Nw.of rfl (hts _ ts_n3), va_Nw.of rfl (hts _ ts_n4), va_Nw.of rfl (hts _ ts_n5), va_Nw.of rfl (hts _ ts_f0), va_Nw.of rfl (hts _ ts_f1), vk_R.of (hts _ ts_s0) (hSe 0 (by decide)), vk_R.of (hts _ ts_s1) (hSe 1 (by decide)), vk_R.of (hts _ ts_s2) (hSe 2 (by decide)), vk_R.of (hts _ ts_s3) (hSe 3 (by decide)), vk_R.of (hts _ ts_s4) (hSe 4 (by decide)), vk_R.of (hts _ ts_s5) (hSe 5 (by decide)), vk_R.of (hts _ ts_s6) (hSe 6 (by decide)), vk_R.of (hts _ ts_s7) (hSe 7 (by decide)), vk_R.of (hts _ ts_s8) (hSe 8 (by decide)), vk_R.of (hts _ ts_s9) (hSe 9 (by decide)), vk_R.of (hts _ ts_s10) (hSe 10 (by decide)), vk_R.of (hts _ ts_s11) (hSe 11 (by decide))⟩
