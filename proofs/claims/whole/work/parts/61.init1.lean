def rmX1_init : Room := { frames := 1, cells := 6, slots := 68, locals := 12 }
set_option maxHeartbeats 4000000 in
set_option maxRecDepth 100000 in
theorem kX1_init (l : Launch) (g : Gl) (h0 sz : Nat) : MetN l yX1_init (Cond.code yX1_init cX1_init 2 none :: wsL_law) rmX1_init h0 g [(h0, .inr (0, [.null, .int 0, .int 0, .int 0, .int 0, .int 0, .int 0, .int 0, .null, .null, .null, .null, .null, .int 0, .int 0]))] sz (fun ad => wL g ad L0) 6 68 := by
  refine openN (by decide +kernel) (Nat.le_of_ble_eq_true rfl) ?_
  intro p e s m args below meth c A C hin hAO hE hA hH ls hl
  have C : Cx p s m args meth c cX1_init 2 none RX1 := C
  have hin : meth.name = "<init>" := hin
  obtain ⟨hx, hb, hml, hown, hT, hr, hlk⟩ := id C
  refine lv_aload_n hx hb dX1_init_0 rfl (lv_at hl 0 rfl) ?_
  refine xobj C hl.1 tw_2_9 tw_1_11 tw_1_12 dX1_init_1 (Nat.le_of_ble_eq_true rfl) (Nat.le_of_ble_eq_true rfl) ?_
  refine lv_aload_n hx hb dX1_init_4 rfl (lv_at hl 0 rfl) ?_
  refine lv_bipush (v := 28) hx hb dX1_init_5 (by decide) ?_
  refine xnewI C hE hA hH 28 (by decide) rfl (Nat.le_of_ble_eq_true rfl) (Nat.le_of_ble_eq_true rfl) (Nat.le_of_ble_eq_true rfl) tw_2_4 dX1_init_7 (fun q1 H hH => ?_)
  have hH : Hp g A s H _ [(h0, .inr (0, [.null, .int 0, .int 0, .int 0, .int 0, .int 0, .int 0, .int 0, .null, .null, .null, .null, .null, .int 0, .int 0])), (q1, .inl (gI g, 28, .inl (fun _ => 0)))] := hH
  refine xputF C hin hE hH 0 rfl rfl inlX1 tyX1 tyX1_ok nmX1 0 (by decide) tw_2_10 rfl rfl rfl rfl rfl rfl (Nat.le_of_ble_eq_true rfl) dX1_init_9 (fun H locs hH => ?_)
  have hH : Hp g A s H locs [(h0, .inr (0, [.ref q1, .int 0, .int 0, .int 0, .int 0, .int 0, .int 0, .int 0, .null, .null, .null, .null, .null, .int 0, .int 0])), (q1, .inl (gI g, 28, .inl (fun _ => 0)))] := hH
  refine lv_aload_n hx hb dX1_init_12 rfl (lv_at hl 0 rfl) ?_
  refine lv_iconst (v := 0) hx hb dX1_init_13 (by decide) ?_
  refine xputW C hE hH 0 rfl rfl inlX1 tyX1 tyX1_ok nmX1 1 (by decide) tw_2_11 rfl rfl rfl rfl rfl (Nat.le_of_ble_eq_true rfl) dX1_init_14 (fun H locs hH => ?_)
  have hH : Hp g A s H locs [(h0, .inr (0, [.ref q1, .int 0, .int 0, .int 0, .int 0, .int 0, .int 0, .int 0, .null, .null, .null, .null, .null, .int 0, .int 0])), (q1, .inl (gI g, 28, .inl (fun _ => 0)))] := hH
  refine lv_aload_n hx hb dX1_init_17 rfl (lv_at hl 0 rfl) ?_
  refine lv_bipush (v := 9) hx hb dX1_init_18 (by decide) ?_
  refine xputW C hE hH 0 rfl rfl inlX1 tyX1 tyX1_ok nmX1 2 (by decide) tw_2_12 rfl rfl rfl rfl rfl (Nat.le_of_ble_eq_true rfl) dX1_init_20 (fun H locs hH => ?_)
  have hH : Hp g A s H locs [(h0, .inr (0, [.ref q1, .int 0, .int 9, .int 0, .int 0, .int 0, .int 0, .int 0, .null, .null, .null, .null, .null, .int 0, .int 0])), (q1, .inl (gI g, 28, .inl (fun _ => 0)))] := hH
  refine lv_aload_n hx hb dX1_init_23 rfl (lv_at hl 0 rfl) ?_
  refine lv_iconst (v := 0) hx hb dX1_init_24 (by decide) ?_
  refine xputW C hE hH 0 rfl rfl inlX1 tyX1 tyX1_ok nmX1 3 (by decide) tw_2_13 rfl rfl rfl rfl rfl (Nat.le_of_ble_eq_true rfl) dX1_init_25 (fun H locs hH => ?_)
  have hH : Hp g A s H locs [(h0, .inr (0, [.ref q1, .int 0, .int 9, .int 0, .int 0, .int 0, .int 0, .int 0, .null, .null, .null, .null, .null, .int 0, .int 0])), (q1, .inl (gI g, 28, .inl (fun _ => 0)))] := hH
  refine lv_aload_n hx hb dX1_init_28 rfl (lv_at hl 0 rfl) ?_
  refine lv_bipush (v := 100) hx hb dX1_init_29 (by decide) ?_
  refine xputW C hE hH 0 rfl rfl inlX1 tyX1 tyX1_ok nmX1 4 (by decide) tw_2_14 rfl rfl rfl rfl rfl (Nat.le_of_ble_eq_true rfl) dX1_init_31 (fun H locs hH => ?_)
  have hH : Hp g A s H locs [(h0, .inr (0, [.ref q1, .int 0, .int 9, .int 0, .int 100, .int 0, .int 0, .int 0, .null, .null, .null, .null, .null, .int 0, .int 0])), (q1, .inl (gI g, 28, .inl (fun _ => 0)))] := hH
  refine lv_aload_n hx hb dX1_init_34 rfl (lv_at hl 0 rfl) ?_
  refine lv_iconst (v := 2) hx hb dX1_init_35 (by decide) ?_
  refine xputW C hE hH 0 rfl rfl inlX1 tyX1 tyX1_ok nmX1 5 (by decide) tw_2_15 rfl rfl rfl rfl rfl (Nat.le_of_ble_eq_true rfl) dX1_init_36 (fun H locs hH => ?_)
  have hH : Hp g A s H locs [(h0, .inr (0, [.ref q1, .int 0, .int 9, .int 0, .int 100, .int 2, .int 0, .int 0, .null, .null, .null, .null, .null, .int 0, .int 0])), (q1, .inl (gI g, 28, .inl (fun _ => 0)))] := hH
  refine lv_aload_n hx hb dX1_init_39 rfl (lv_at hl 0 rfl) ?_
  refine lv_iconst (v := 0) hx hb dX1_init_40 (by decide) ?_
  refine xputW C hE hH 0 rfl rfl inlX1 tyX1 tyX1_ok nmX1 6 (by decide) tw_2_16 rfl rfl rfl rfl rfl (Nat.le_of_ble_eq_true rfl) dX1_init_41 (fun H locs hH => ?_)
  have hH : Hp g A s H locs [(h0, .inr (0, [.ref q1, .int 0, .int 9, .int 0, .int 100, .int 2, .int 0, .int 0, .null, .null, .null, .null, .null, .int 0, .int 0])), (q1, .inl (gI g, 28, .inl (fun _ => 0)))] := hH
  refine lv_aload_n hx hb dX1_init_44 rfl (lv_at hl 0 rfl) ?_
  refine lv_iconst (v := 0) hx hb dX1_init_45 (by decide) ?_
  refine xputW C hE hH 0 rfl rfl inlX1 tyX1 tyX1_ok nmX1 7 (by decide) tw_2_17 rfl rfl rfl rfl rfl (Nat.le_of_ble_eq_true rfl) dX1_init_46 (fun H locs hH => ?_)
  have hH : Hp g A s H locs [(h0, .inr (0, [.ref q1, .int 0, .int 9, .int 0, .int 100, .int 2, .int 0, .int 0, .null, .null, .null, .null, .null, .int 0, .int 0])), (q1, .inl (gI g, 28, .inl (fun _ => 0)))] := hH
  refine lv_aload_n hx hb dX1_init_49 rfl (lv_at hl 0 rfl) ?_
  refine lv_bipush (v := 8) hx hb dX1_init_50 (by decide) ?_
  refine xnewI C hE hA hH 8 (by decide) rfl (Nat.le_of_ble_eq_true rfl) (Nat.le_of_ble_eq_true rfl) (Nat.le_of_ble_eq_true rfl) tw_2_4 dX1_init_52 (fun q2 H hH => ?_)
  have hH : Hp g A s H _ [(h0, .inr (0, [.ref q1, .int 0, .int 9, .int 0, .int 100, .int 2, .int 0, .int 0, .null, .null, .null, .null, .null, .int 0, .int 0])), (q1, .inl (gI g, 28, .inl (fun _ => 0))), (q2, .inl (gI g, 8, .inl (fun _ => 0)))] := hH
  refine xputF C hin hE hH 0 rfl rfl inlX1 tyX1 tyX1_ok nmX1 8 (by decide) tw_2_18 rfl rfl rfl rfl rfl rfl (Nat.le_of_ble_eq_true rfl) dX1_init_54 (fun H locs hH => ?_)
  have hH : Hp g A s H locs [(h0, .inr (0, [.ref q1, .int 0, .int 9, .int 0, .int 100, .int 2, .int 0, .int 0, .ref q2, .null, .null, .null, .null, .int 0, .int 0])), (q1, .inl (gI g, 28, .inl (fun _ => 0))), (q2, .inl (gI g, 8, .inl (fun _ => 0)))] := hH
  refine lv_aload_n hx hb dX1_init_57 rfl (lv_at hl 0 rfl) ?_
  refine lv_bipush (v := 8) hx hb dX1_init_58 (by decide) ?_
  refine xnewI C hE hA hH 8 (by decide) rfl (Nat.le_of_ble_eq_true rfl) (Nat.le_of_ble_eq_true rfl) (Nat.le_of_ble_eq_true rfl) tw_2_4 dX1_init_60 (fun q3 H hH => ?_)
  have hH : Hp g A s H _ [(h0, .inr (0, [.ref q1, .int 0, .int 9, .int 0, .int 100, .int 2, .int 0, .int 0, .ref q2, .null, .null, .null, .null, .int 0, .int 0])), (q1, .inl (gI g, 28, .inl (fun _ => 0))), (q2, .inl (gI g, 8, .inl (fun _ => 0))), (q3, .inl (gI g, 8, .inl (fun _ => 0)))] := hH
  refine xputF C hin hE hH 0 rfl rfl inlX1 tyX1 tyX1_ok nmX1 9 (by decide) tw_2_19 rfl rfl rfl rfl rfl rfl (Nat.le_of_ble_eq_true rfl) dX1_init_62 (fun H locs hH => ?_)
  have hH : Hp g A s H locs [(h0, .inr (0, [.ref q1, .int 0, .int 9, .int 0, .int 100, .int 2, .int 0, .int 0, .ref q2, .ref q3, .null, .null, .null, .int 0, .int 0])), (q1, .inl (gI g, 28, .inl (fun _ => 0))), (q2, .inl (gI g, 8, .inl (fun _ => 0))), (q3, .inl (gI g, 8, .inl (fun _ => 0)))] := hH
  refine lv_aload_n hx hb dX1_init_65 rfl (lv_at hl 0 rfl) ?_
  refine lv_bipush (v := 8) hx hb dX1_init_66 (by decide) ?_
  refine xnewI C hE hA hH 8 (by decide) rfl (Nat.le_of_ble_eq_true rfl) (Nat.le_of_ble_eq_true rfl) (Nat.le_of_ble_eq_true rfl) tw_2_4 dX1_init_68 (fun q4 H hH => ?_)
  have hH : Hp g A s H _ [(h0, .inr (0, [.ref q1, .int 0, .int 9, .int 0, .int 100, .int 2, .int 0, .int 0, .ref q2, .ref q3, .null, .null, .null, .int 0, .int 0])), (q1, .inl (gI g, 28, .inl (fun _ => 0))), (q2, .inl (gI g, 8, .inl (fun _ => 0))), (q3, .inl (gI g, 8, .inl (fun _ => 0))), (q4, .inl (gI g, 8, .inl (fun _ => 0)))] := hH
  refine xputF C hin hE hH 0 rfl rfl inlX1 tyX1 tyX1_ok nmX1 10 (by decide) tw_2_20 rfl rfl rfl rfl rfl rfl (Nat.le_of_ble_eq_true rfl) dX1_init_70 (fun H locs hH => ?_)
  have hH : Hp g A s H locs [(h0, .inr (0, [.ref q1, .int 0, .int 9, .int 0, .int 100, .int 2, .int 0, .int 0, .ref q2, .ref q3, .ref q4, .null, .null, .int 0, .int 0])), (q1, .inl (gI g, 28, .inl (fun _ => 0))), (q2, .inl (gI g, 8, .inl (fun _ => 0))), (q3, .inl (gI g, 8, .inl (fun _ => 0))), (q4, .inl (gI g, 8, .inl (fun _ => 0)))] := hH
  refine lv_aload_n hx hb dX1_init_73 rfl (lv_at hl 0 rfl) ?_
  refine lv_bipush (v := 8) hx hb dX1_init_74 (by decide) ?_
  refine xnewI C hE hA hH 8 (by decide) rfl (Nat.le_of_ble_eq_true rfl) (Nat.le_of_ble_eq_true rfl) (Nat.le_of_ble_eq_true rfl) tw_2_4 dX1_init_76 (fun q5 H hH => ?_)
  have hH : Hp g A s H _ [(h0, .inr (0, [.ref q1, .int 0, .int 9, .int 0, .int 100, .int 2, .int 0, .int 0, .ref q2, .ref q3, .ref q4, .null, .null, .int 0, .int 0])), (q1, .inl (gI g, 28, .inl (fun _ => 0))), (q2, .inl (gI g, 8, .inl (fun _ => 0))), (q3, .inl (gI g, 8, .inl (fun _ => 0))), (q4, .inl (gI g, 8, .inl (fun _ => 0))), (q5, .inl (gI g, 8, .inl (fun _ => 0)))] := hH
  refine xputF C hin hE hH 0 rfl rfl inlX1 tyX1 tyX1_ok nmX1 11 (by decide) tw_2_21 rfl rfl rfl rfl rfl rfl (Nat.le_of_ble_eq_true rfl) dX1_init_78 (fun H locs hH => ?_)
  have hH : Hp g A s H locs [(h0, .inr (0, [.ref q1, .int 0, .int 9, .int 0, .int 100, .int 2, .int 0, .int 0, .ref q2, .ref q3, .ref q4, .ref q5, .null, .int 0, .int 0])), (q1, .inl (gI g, 28, .inl (fun _ => 0))), (q2, .inl (gI g, 8, .inl (fun _ => 0))), (q3, .inl (gI g, 8, .inl (fun _ => 0))), (q4, .inl (gI g, 8, .inl (fun _ => 0))), (q5, .inl (gI g, 8, .inl (fun _ => 0)))] := hH
  refine lv_aload_n hx hb dX1_init_81 rfl (lv_at hl 0 rfl) ?_
  refine lv_bipush (v := 8) hx hb dX1_init_82 (by decide) ?_
  refine xnewI C hE hA hH 8 (by decide) rfl (Nat.le_of_ble_eq_true rfl) (Nat.le_of_ble_eq_true rfl) (Nat.le_of_ble_eq_true rfl) tw_2_4 dX1_init_84 (fun q6 H hH => ?_)
  have hH : Hp g A s H _ [(h0, .inr (0, [.ref q1, .int 0, .int 9, .int 0, .int 100, .int 2, .int 0, .int 0, .ref q2, .ref q3, .ref q4, .ref q5, .null, .int 0, .int 0])), (q1, .inl (gI g, 28, .inl (fun _ => 0))), (q2, .inl (gI g, 8, .inl (fun _ => 0))), (q3, .inl (gI g, 8, .inl (fun _ => 0))), (q4, .inl (gI g, 8, .inl (fun _ => 0))), (q5, .inl (gI g, 8, .inl (fun _ => 0))), (q6, .inl (gI g, 8, .inl (fun _ => 0)))] := hH
  refine xputF C hin hE hH 0 rfl rfl inlX1 tyX1 tyX1_ok nmX1 12 (by decide) tw_2_22 rfl rfl rfl rfl rfl rfl (Nat.le_of_ble_eq_true rfl) dX1_init_86 (fun H locs hH => ?_)
  have hH : Hp g A s H locs [(h0, .inr (0, [.ref q1, .int 0, .int 9, .int 0, .int 100, .int 2, .int 0, .int 0, .ref q2, .ref q3, .ref q4, .ref q5, .ref q6, .int 0, .int 0])), (q1, .inl (gI g, 28, .inl (fun _ => 0))), (q2, .inl (gI g, 8, .inl (fun _ => 0))), (q3, .inl (gI g, 8, .inl (fun _ => 0))), (q4, .inl (gI g, 8, .inl (fun _ => 0))), (q5, .inl (gI g, 8, .inl (fun _ => 0))), (q6, .inl (gI g, 8, .inl (fun _ => 0)))] := hH
  refine lv_aload_n hx hb dX1_init_89 rfl (lv_at hl 0 rfl) ?_
  refine lv_iconst (v := (-1)) hx hb dX1_init_90 (by decide) ?_
  refine xputW C hE hH 0 rfl rfl inlX1 tyX1 tyX1_ok nmX1 13 (by decide) tw_2_23 rfl rfl rfl rfl rfl (Nat.le_of_ble_eq_true rfl) dX1_init_91 (fun H locs hH => ?_)
  have hH : Hp g A s H locs [(h0, .inr (0, [.ref q1, .int 0, .int 9, .int 0, .int 100, .int 2, .int 0, .int 0, .ref q2, .ref q3, .ref q4, .ref q5, .ref q6, .int (-1), .int 0])), (q1, .inl (gI g, 28, .inl (fun _ => 0))), (q2, .inl (gI g, 8, .inl (fun _ => 0))), (q3, .inl (gI g, 8, .inl (fun _ => 0))), (q4, .inl (gI g, 8, .inl (fun _ => 0))), (q5, .inl (gI g, 8, .inl (fun _ => 0))), (q6, .inl (gI g, 8, .inl (fun _ => 0)))] := hH
  refine lv_aload_n hx hb dX1_init_94 rfl (lv_at hl 0 rfl) ?_
  refine lv_iconst (v := (-1)) hx hb dX1_init_95 (by decide) ?_
  refine xputW C hE hH 0 rfl rfl inlX1 tyX1 tyX1_ok nmX1 14 (by decide) tw_3_0 rfl rfl rfl rfl rfl (Nat.le_of_ble_eq_true rfl) dX1_init_96 (fun H locs hH => ?_)
  have hH : Hp g A s H locs [(h0, .inr (0, [.ref q1, .int 0, .int 9, .int 0, .int 100, .int 2, .int 0, .int 0, .ref q2, .ref q3, .ref q4, .ref q5, .ref q6, .int (-1), .int (-1)])), (q1, .inl (gI g, 28, .inl (fun _ => 0))), (q2, .inl (gI g, 8, .inl (fun _ => 0))), (q3, .inl (gI g, 8, .inl (fun _ => 0))), (q4, .inl (gI g, 8, .inl (fun _ => 0))), (q5, .inl (gI g, 8, .inl (fun _ => 0))), (q6, .inl (gI g, 8, .inl (fun _ => 0)))] := hH
  refine W.widen (k := 6) (n := 68) (Nat.le_of_ble_eq_true rfl) (Nat.le_of_ble_eq_true rfl) ?_
  have lp : ∀ n i, i + n = 28 → ∀ (H : Heap) (locs : List Loc) (ls : Array Slot), Hp g A s H locs [(h0, .inr (0, [.ref q1, .int 0, .int 9, .int 0, .int 100, .int 2, .int 0, .int 0, .ref q2, .ref q3, .ref q4, .ref q5, .ref q6, .int (-1), .int (-1)])), (q1, .inl (gI g, 28, .inl (seaI i))), (q2, .inl (gI g, 8, .inl (fun _ => 0))), (q3, .inl (gI g, 8, .inl (fun _ => 0))), (q4, .inl (gI g, 8, .inl (fun _ => 0))), (q5, .inl (gI g, 8, .inl (fun _ => 0))), (q6, .inl (gI g, 8, .inl (fun _ => 0)))] → lv_has ls 2 [(0, .ref h0), (1, .int (nI i))] → W p l e rmX1_init s m args below meth c H locs 6 68 (MQ below (QcN g A h0 (fun ad => wL g ad L0)) args s 6 68 A) (F0 m 101 ls []) := by
    intro n
    induction n with
    | zero =>
      intro i hi H locs ls hH hl
      refine lv_iload_n hx hb dX1_init_101 rfl (lv_at hl 1 rfl) ?_
      refine lv_bipush (v := 28) hx hb dX1_init_102 (by decide) ?_
      refine lv_icmp_ge (tgt := 125) hx hb dX1_init_104 (by decide) (fun c9 => ?_) (fun c9 => ?_)
      · have e28 : i = 28 := by omega
        subst e28
        exact retN C (fun k => ([h0, q1, q2, q3, q4, q5, q6] : List Nat).getD k 0) rfl hH dX1_init_125
      · exact absurd (show (28 : Int32) ≤ nI i from i_le (a := 28) (by decide) (by omega) (by omega)) c9
    | succ n ih =>
      intro i hi H locs ls hH hl
      refine lv_iload_n hx hb dX1_init_101 rfl (lv_at hl 1 rfl) ?_
      refine lv_bipush (v := 28) hx hb dX1_init_102 (by decide) ?_
      refine lv_icmp_ge (tgt := 125) hx hb dX1_init_104 (by decide) (fun c9 => ?_) (fun c9 => ?_)
      · exact absurd c9 (show ¬ (28 : Int32) ≤ nI i from i_nle (a := 28) (by decide) (by omega) (by omega))
      · refine lv_aload_n hx hb dX1_init_107 rfl (lv_at hl 0 rfl) ?_
        refine gf_RX1_9 C hE hH 0 rfl rfl dX1_init_108 ?_
        refine lv_iload_n hx hb dX1_init_111 rfl (lv_at hl 1 rfl) ?_
        refine lv_iconst (v := 5) hx hb dX1_init_112 (by decide) ?_
        refine lv_iload_n hx hb dX1_init_113 rfl (lv_at hl 1 rfl) ?_
        refine lv_imul hx hb dX1_init_114 ?_
        refine lv_bipush (v := 13) hx hb dX1_init_115 (by decide) ?_
        refine lv_irem hx hb dX1_init_117 (by decide) ?_
        refine lv_topi (fun v ev => ?_)
        have ev : v = nI (5 * i % 13) := ev.trans (ir13 (by omega))
        subst ev
        refine xiast C hE hH 1 rfl (n_inb (by omega) (by omega)) (fun f : M1 => [(h0, .inr (0, [.ref q1, .int 0, .int 9, .int 0, .int 100, .int 2, .int 0, .int 0, .ref q2, .ref q3, .ref q4, .ref q5, .ref q6, .int (-1), .int (-1)])), (q1, .inl (gI g, 28, .inl f)), (q2, .inl (gI g, 8, .inl (fun _ => 0))), (q3, .inl (gI g, 8, .inl (fun _ => 0))), (q4, .inl (gI g, 8, .inl (fun _ => 0))), (q5, .inl (gI g, 8, .inl (fun _ => 0))), (q6, .inl (gI g, 8, .inl (fun _ => 0)))]) (seaI (i + 1)) (by rw [n_cl (by omega), seaI_s]; rfl) dX1_init_118 (fun x9 ex H locs hH => ?_)
        subst ex
        refine lv_iinc (v := nI (i + 1)) (lv' := [(1, .int (nI (i + 1))), (0, .ref h0)]) hx hb dX1_init_119 hl (k := 1) rfl (n_add i 1) (by decide) rfl (fun ls hl => ?_)
        refine lv_goto (tgt := 101) hx hb dX1_init_122 (by decide) ?_
        exact ih (i + 1) (by omega) _ _ _ hH (lv_sub hl [1, 0] rfl)
  refine lv_iconst (v := 0) hx hb dX1_init_99 (by decide) ?_
  refine lv_istore_n (lv' := [(1, .int 0), (0, .ref h0)]) hx hb dX1_init_100 rfl hl (by decide) rfl (fun ls hl => ?_)
  exact lp 28 0 rfl _ _ _ (by rw [seaI_0]; exact hH) (lv_sub hl [1, 0] rfl)
def rmX2_init : Room := { frames := 1, cells := 1, slots := 40, locals := 12 }
set_option maxHeartbeats 4000000 in
set_option maxRecDepth 100000 in
theorem kX2_init (l : Launch) (g : Gl) (h0 sz : Nat) : MetN l yX2_init (Cond.code yX2_init cX2_init 1 none :: wsL_law) rmX2_init h0 g [(h0, .inr (1, [.null, .int 0, .int 0]))] sz (fun ad => wS g ad Y1 Z1) 1 40 := by
  refine openN (by decide +kernel) (Nat.le_of_ble_eq_true rfl) ?_
  intro p e s m args below meth c A C hin hAO hE hA hH ls hl
  have C : Cx p s m args meth c cX2_init 1 none RX2 := C
  have hin : meth.name = "<init>" := hin
  obtain ⟨hx, hb, hml, hown, hT, hr, hlk⟩ := id C
  refine lv_aload_n hx hb dX2_init_0 rfl (lv_at hl 0 rfl) ?_
  refine xobj C hl.1 tw_3_12 tw_1_11 tw_1_12 dX2_init_1 (Nat.le_of_ble_eq_true rfl) (Nat.le_of_ble_eq_true rfl) ?_
  refine lv_aload_n hx hb dX2_init_4 rfl (lv_at hl 0 rfl) ?_
  refine lv_bipush (v := 40) hx hb dX2_init_5 (by decide) ?_
  refine xnewJ C hE hA hH 40 (by decide) rfl (Nat.le_of_ble_eq_true rfl) (Nat.le_of_ble_eq_true rfl) (Nat.le_of_ble_eq_true rfl) tw_3_13 dX2_init_7 (fun q1 H hH => ?_)
  have hH : Hp g A s H _ [(h0, .inr (1, [.null, .int 0, .int 0])), (q1, .inl (gJ g, 40, .inr (.inl (fun _ => 0))))] := hH
  refine xputF C hin hE hH 0 rfl rfl inlX2 tyX2 tyX2_ok nmX2 0 (by decide) tw_3_14 rfl rfl rfl rfl rfl rfl (Nat.le_of_ble_eq_true rfl) dX2_init_9 (fun H locs hH => ?_)
  have hH : Hp g A s H locs [(h0, .inr (1, [.ref q1, .int 0, .int 0])), (q1, .inl (gJ g, 40, .inr (.inl (fun _ => 0))))] := hH
  refine lv_aload_n hx hb dX2_init_12 rfl (lv_at hl 0 rfl) ?_
  refine lv_iconst (v := 0) hx hb dX2_init_13 (by decide) ?_
  refine xputW C hE hH 0 rfl rfl inlX2 tyX2 tyX2_ok nmX2 1 (by decide) tw_3_15 rfl rfl rfl rfl rfl (Nat.le_of_ble_eq_true rfl) dX2_init_14 (fun H locs hH => ?_)
  have hH : Hp g A s H locs [(h0, .inr (1, [.ref q1, .int 0, .int 0])), (q1, .inl (gJ g, 40, .inr (.inl (fun _ => 0))))] := hH
  refine lv_aload_n hx hb dX2_init_17 rfl (lv_at hl 0 rfl) ?_
  refine lv_iconst (v := 0) hx hb dX2_init_18 (by decide) ?_
  refine xputW C hE hH 0 rfl rfl inlX2 tyX2 tyX2_ok nmX2 2 (by decide) tw_3_16 rfl rfl rfl rfl rfl (Nat.le_of_ble_eq_true rfl) dX2_init_19 (fun H locs hH => ?_)
  have hH : Hp g A s H locs [(h0, .inr (1, [.ref q1, .int 0, .int 0])), (q1, .inl (gJ g, 40, .inr (.inl (fun _ => 0))))] := hH
  exact retN C (fun k => ([h0, q1] : List Nat).getD k 0) rfl hH dX2_init_22
def rmX3_init : Room := { frames := 1, cells := 1, slots := 120, locals := 12 }
set_option maxHeartbeats 4000000 in
set_option maxRecDepth 100000 in
theorem kX3_init (l : Launch) (g : Gl) (h0 sz : Nat) : MetN l yX3_init (Cond.code yX3_init cX3_init 1 none :: wsL_law) rmX3_init h0 g [(h0, .inr (2, [.null, .int 0, .int 0, .int 0, .int 0, .int 0]))] sz (fun ad => wT g ad T0) 1 120 := by
  refine openN (by decide +kernel) (Nat.le_of_ble_eq_true rfl) ?_
  intro p e s m args below meth c A C hin hAO hE hA hH ls hl
  have C : Cx p s m args meth c cX3_init 1 none RX3 := C
  have hin : meth.name = "<init>" := hin
  obtain ⟨hx, hb, hml, hown, hT, hr, hlk⟩ := id C
  refine lv_aload_n hx hb dX3_init_0 rfl (lv_at hl 0 rfl) ?_
  refine xobj C hl.1 tw_3_3 tw_1_11 tw_1_12 dX3_init_1 (Nat.le_of_ble_eq_true rfl) (Nat.le_of_ble_eq_true rfl) ?_
  refine lv_aload_n hx hb dX3_init_4 rfl (lv_at hl 0 rfl) ?_
  refine lv_bipush (v := 120) hx hb dX3_init_5 (by decide) ?_
  refine xnewI C hE hA hH 120 (by decide) rfl (Nat.le_of_ble_eq_true rfl) (Nat.le_of_ble_eq_true rfl) (Nat.le_of_ble_eq_true rfl) tw_2_4 dX3_init_7 (fun q1 H hH => ?_)
  have hH : Hp g A s H _ [(h0, .inr (2, [.null, .int 0, .int 0, .int 0, .int 0, .int 0])), (q1, .inl (gI g, 120, .inl (fun _ => 0)))] := hH
  refine xputF C hin hE hH 0 rfl rfl inlX3 tyX3 tyX3_ok nmX3 0 (by decide) tw_3_4 rfl rfl rfl rfl rfl rfl (Nat.le_of_ble_eq_true rfl) dX3_init_9 (fun H locs hH => ?_)
  have hH : Hp g A s H locs [(h0, .inr (2, [.ref q1, .int 0, .int 0, .int 0, .int 0, .int 0])), (q1, .inl (gI g, 120, .inl (fun _ => 0)))] := hH
  refine lv_aload_n hx hb dX3_init_12 rfl (lv_at hl 0 rfl) ?_
  refine lv_iconst (v := 0) hx hb dX3_init_13 (by decide) ?_
  refine xputW C hE hH 0 rfl rfl inlX3 tyX3 tyX3_ok nmX3 1 (by decide) tw_3_5 rfl rfl rfl rfl rfl (Nat.le_of_ble_eq_true rfl) dX3_init_14 (fun H locs hH => ?_)
  have hH : Hp g A s H locs [(h0, .inr (2, [.ref q1, .int 0, .int 0, .int 0, .int 0, .int 0])), (q1, .inl (gI g, 120, .inl (fun _ => 0)))] := hH
  refine lv_aload_n hx hb dX3_init_17 rfl (lv_at hl 0 rfl) ?_
  refine lv_iconst (v := 0) hx hb dX3_init_18 (by decide) ?_
  refine xputW C hE hH 0 rfl rfl inlX3 tyX3 tyX3_ok nmX3 2 (by decide) tw_3_6 rfl rfl rfl rfl rfl (Nat.le_of_ble_eq_true rfl) dX3_init_19 (fun H locs hH => ?_)
  have hH : Hp g A s H locs [(h0, .inr (2, [.ref q1, .int 0, .int 0, .int 0, .int 0, .int 0])), (q1, .inl (gI g, 120, .inl (fun _ => 0)))] := hH
  refine lv_aload_n hx hb dX3_init_22 rfl (lv_at hl 0 rfl) ?_
  refine lv_iconst (v := 0) hx hb dX3_init_23 (by decide) ?_
  refine xputW C hE hH 0 rfl rfl inlX3 tyX3 tyX3_ok nmX3 3 (by decide) tw_3_7 rfl rfl rfl rfl rfl (Nat.le_of_ble_eq_true rfl) dX3_init_24 (fun H locs hH => ?_)
  have hH : Hp g A s H locs [(h0, .inr (2, [.ref q1, .int 0, .int 0, .int 0, .int 0, .int 0])), (q1, .inl (gI g, 120, .inl (fun _ => 0)))] := hH
  refine lv_aload_n hx hb dX3_init_27 rfl (lv_at hl 0 rfl) ?_
  refine lv_iconst (v := 0) hx hb dX3_init_28 (by decide) ?_
  refine xputW C hE hH 0 rfl rfl inlX3 tyX3 tyX3_ok nmX3 4 (by decide) tw_3_8 rfl rfl rfl rfl rfl (Nat.le_of_ble_eq_true rfl) dX3_init_29 (fun H locs hH => ?_)
  have hH : Hp g A s H locs [(h0, .inr (2, [.ref q1, .int 0, .int 0, .int 0, .int 0, .int 0])), (q1, .inl (gI g, 120, .inl (fun _ => 0)))] := hH
  refine lv_aload_n hx hb dX3_init_32 rfl (lv_at hl 0 rfl) ?_
  refine lv_iconst (v := 0) hx hb dX3_init_33 (by decide) ?_
  refine xputW C hE hH 0 rfl rfl inlX3 tyX3 tyX3_ok nmX3 5 (by decide) tw_3_9 rfl rfl rfl rfl rfl (Nat.le_of_ble_eq_true rfl) dX3_init_34 (fun H locs hH => ?_)
  have hH : Hp g A s H locs [(h0, .inr (2, [.ref q1, .int 0, .int 0, .int 0, .int 0, .int 0])), (q1, .inl (gI g, 120, .inl (fun _ => 0)))] := hH
  exact retN C (fun k => ([h0, q1] : List Nat).getD k 0) rfl hH dX3_init_37
