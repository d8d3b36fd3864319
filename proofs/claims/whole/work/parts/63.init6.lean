def rmX6_init : Room := { frames := 1, cells := 11, slots := 710, locals := 12 }
set_option maxHeartbeats 4000000 in
set_option maxRecDepth 100000 in
theorem kX6_init (l : Launch) (g : Gl) (h0 sz : Nat) : MetN l yX6_init (Cond.code yX6_init cX6_init 2 none :: wsL_law) rmX6_init h0 g [(h0, .inr (4, [.null, .null, .int 0, .int 0, .null, .null, .null, .int 0, .int 0, .int 0, .int 0, .long 0, .int 0, .int 0, .null, .null, .null, .null, .null, .null, .int 0]))] sz (fun ad => wM g ad G0 Y2) 11 710 := by
  refine openN (by decide +kernel) (Nat.le_of_ble_eq_true rfl) ?_
  intro p e s m args below meth c A C hin hAO hE hA hH ls hl
  have C : Cx p s m args meth c cX6_init 2 none RX6 := C
  have hin : meth.name = "<init>" := hin
  obtain ⟨hx, hb, hml, hown, hT, hr, hlk⟩ := id C
  refine lv_aload_n hx hb dX6_init_0 rfl (lv_at hl 0 rfl) ?_
  refine xobj C hl.1 tw_3_20 tw_1_11 tw_1_12 dX6_init_1 (Nat.le_of_ble_eq_true rfl) (Nat.le_of_ble_eq_true rfl) ?_
  refine lv_aload_n hx hb dX6_init_4 rfl (lv_at hl 0 rfl) ?_
  refine lv_bipush (v := 75) hx hb dX6_init_5 (by decide) ?_
  refine xnewI C hE hA hH 75 (by decide) rfl (Nat.le_of_ble_eq_true rfl) (Nat.le_of_ble_eq_true rfl) (Nat.le_of_ble_eq_true rfl) tw_2_4 dX6_init_7 (fun q1 H hH => ?_)
  have hH : Hp g A s H _ [(h0, .inr (4, [.null, .null, .int 0, .int 0, .null, .null, .null, .int 0, .int 0, .int 0, .int 0, .long 0, .int 0, .int 0, .null, .null, .null, .null, .null, .null, .int 0])), (q1, .inl (gI g, 75, .inl (fun _ => 0)))] := hH
  refine xputF C hin hE hH 0 rfl rfl inlX6 tyX6 tyX6_ok nmX6 0 (by decide) tw_3_21 rfl rfl rfl rfl rfl rfl (Nat.le_of_ble_eq_true rfl) dX6_init_9 (fun H locs hH => ?_)
  have hH : Hp g A s H locs [(h0, .inr (4, [.ref q1, .null, .int 0, .int 0, .null, .null, .null, .int 0, .int 0, .int 0, .int 0, .long 0, .int 0, .int 0, .null, .null, .null, .null, .null, .null, .int 0])), (q1, .inl (gI g, 75, .inl (fun _ => 0)))] := hH
  refine lv_aload_n hx hb dX6_init_12 rfl (lv_at hl 0 rfl) ?_
  refine lv_bipush (v := 7) hx hb dX6_init_13 (by decide) ?_
  refine xnewI C hE hA hH 7 (by decide) rfl (Nat.le_of_ble_eq_true rfl) (Nat.le_of_ble_eq_true rfl) (Nat.le_of_ble_eq_true rfl) tw_2_4 dX6_init_15 (fun q2 H hH => ?_)
  have hH : Hp g A s H _ [(h0, .inr (4, [.ref q1, .null, .int 0, .int 0, .null, .null, .null, .int 0, .int 0, .int 0, .int 0, .long 0, .int 0, .int 0, .null, .null, .null, .null, .null, .null, .int 0])), (q1, .inl (gI g, 75, .inl (fun _ => 0))), (q2, .inl (gI g, 7, .inl (fun _ => 0)))] := hH
  refine xputF C hin hE hH 0 rfl rfl inlX6 tyX6 tyX6_ok nmX6 1 (by decide) tw_3_22 rfl rfl rfl rfl rfl rfl (Nat.le_of_ble_eq_true rfl) dX6_init_17 (fun H locs hH => ?_)
  have hH : Hp g A s H locs [(h0, .inr (4, [.ref q1, .ref q2, .int 0, .int 0, .null, .null, .null, .int 0, .int 0, .int 0, .int 0, .long 0, .int 0, .int 0, .null, .null, .null, .null, .null, .null, .int 0])), (q1, .inl (gI g, 75, .inl (fun _ => 0))), (q2, .inl (gI g, 7, .inl (fun _ => 0)))] := hH
  refine lv_aload_n hx hb dX6_init_20 rfl (lv_at hl 0 rfl) ?_
  refine lv_bipush (v := 75) hx hb dX6_init_21 (by decide) ?_
  refine xnewI C hE hA hH 75 (by decide) rfl (Nat.le_of_ble_eq_true rfl) (Nat.le_of_ble_eq_true rfl) (Nat.le_of_ble_eq_true rfl) tw_2_4 dX6_init_23 (fun q3 H hH => ?_)
  have hH : Hp g A s H _ [(h0, .inr (4, [.ref q1, .ref q2, .int 0, .int 0, .null, .null, .null, .int 0, .int 0, .int 0, .int 0, .long 0, .int 0, .int 0, .null, .null, .null, .null, .null, .null, .int 0])), (q1, .inl (gI g, 75, .inl (fun _ => 0))), (q2, .inl (gI g, 7, .inl (fun _ => 0))), (q3, .inl (gI g, 75, .inl (fun _ => 0)))] := hH
  refine xputF C hin hE hH 0 rfl rfl inlX6 tyX6 tyX6_ok nmX6 4 (by decide) tw_3_23 rfl rfl rfl rfl rfl rfl (Nat.le_of_ble_eq_true rfl) dX6_init_25 (fun H locs hH => ?_)
  have hH : Hp g A s H locs [(h0, .inr (4, [.ref q1, .ref q2, .int 0, .int 0, .ref q3, .null, .null, .int 0, .int 0, .int 0, .int 0, .long 0, .int 0, .int 0, .null, .null, .null, .null, .null, .null, .int 0])), (q1, .inl (gI g, 75, .inl (fun _ => 0))), (q2, .inl (gI g, 7, .inl (fun _ => 0))), (q3, .inl (gI g, 75, .inl (fun _ => 0)))] := hH
  refine lv_aload_n hx hb dX6_init_28 rfl (lv_at hl 0 rfl) ?_
  refine lv_bipush (v := 75) hx hb dX6_init_29 (by decide) ?_
  refine xnewI C hE hA hH 75 (by decide) rfl (Nat.le_of_ble_eq_true rfl) (Nat.le_of_ble_eq_true rfl) (Nat.le_of_ble_eq_true rfl) tw_2_4 dX6_init_31 (fun q4 H hH => ?_)
  have hH : Hp g A s H _ [(h0, .inr (4, [.ref q1, .ref q2, .int 0, .int 0, .ref q3, .null, .null, .int 0, .int 0, .int 0, .int 0, .long 0, .int 0, .int 0, .null, .null, .null, .null, .null, .null, .int 0])), (q1, .inl (gI g, 75, .inl (fun _ => 0))), (q2, .inl (gI g, 7, .inl (fun _ => 0))), (q3, .inl (gI g, 75, .inl (fun _ => 0))), (q4, .inl (gI g, 75, .inl (fun _ => 0)))] := hH
  refine xputF C hin hE hH 0 rfl rfl inlX6 tyX6 tyX6_ok nmX6 5 (by decide) tw_4_0 rfl rfl rfl rfl rfl rfl (Nat.le_of_ble_eq_true rfl) dX6_init_33 (fun H locs hH => ?_)
  have hH : Hp g A s H locs [(h0, .inr (4, [.ref q1, .ref q2, .int 0, .int 0, .ref q3, .ref q4, .null, .int 0, .int 0, .int 0, .int 0, .long 0, .int 0, .int 0, .null, .null, .null, .null, .null, .null, .int 0])), (q1, .inl (gI g, 75, .inl (fun _ => 0))), (q2, .inl (gI g, 7, .inl (fun _ => 0))), (q3, .inl (gI g, 75, .inl (fun _ => 0))), (q4, .inl (gI g, 75, .inl (fun _ => 0)))] := hH
  refine lv_aload_n hx hb dX6_init_36 rfl (lv_at hl 0 rfl) ?_
  refine lv_bipush (v := 120) hx hb dX6_init_37 (by decide) ?_
  refine xnewI C hE hA hH 120 (by decide) rfl (Nat.le_of_ble_eq_true rfl) (Nat.le_of_ble_eq_true rfl) (Nat.le_of_ble_eq_true rfl) tw_2_4 dX6_init_39 (fun q5 H hH => ?_)
  have hH : Hp g A s H _ [(h0, .inr (4, [.ref q1, .ref q2, .int 0, .int 0, .ref q3, .ref q4, .null, .int 0, .int 0, .int 0, .int 0, .long 0, .int 0, .int 0, .null, .null, .null, .null, .null, .null, .int 0])), (q1, .inl (gI g, 75, .inl (fun _ => 0))), (q2, .inl (gI g, 7, .inl (fun _ => 0))), (q3, .inl (gI g, 75, .inl (fun _ => 0))), (q4, .inl (gI g, 75, .inl (fun _ => 0))), (q5, .inl (gI g, 120, .inl (fun _ => 0)))] := hH
  refine xputF C hin hE hH 0 rfl rfl inlX6 tyX6 tyX6_ok nmX6 6 (by decide) tw_4_1 rfl rfl rfl rfl rfl rfl (Nat.le_of_ble_eq_true rfl) dX6_init_41 (fun H locs hH => ?_)
  have hH : Hp g A s H locs [(h0, .inr (4, [.ref q1, .ref q2, .int 0, .int 0, .ref q3, .ref q4, .ref q5, .int 0, .int 0, .int 0, .int 0, .long 0, .int 0, .int 0, .null, .null, .null, .null, .null, .null, .int 0])), (q1, .inl (gI g, 75, .inl (fun _ => 0))), (q2, .inl (gI g, 7, .inl (fun _ => 0))), (q3, .inl (gI g, 75, .inl (fun _ => 0))), (q4, .inl (gI g, 75, .inl (fun _ => 0))), (q5, .inl (gI g, 120, .inl (fun _ => 0)))] := hH
  refine lv_aload_n hx hb dX6_init_44 rfl (lv_at hl 0 rfl) ?_
  refine lv_iconst (v := 4) hx hb dX6_init_45 (by decide) ?_
  refine xnewI C hE hA hH 4 (by decide) rfl (Nat.le_of_ble_eq_true rfl) (Nat.le_of_ble_eq_true rfl) (Nat.le_of_ble_eq_true rfl) tw_2_4 dX6_init_46 (fun q6 H hH => ?_)
  have hH : Hp g A s H _ [(h0, .inr (4, [.ref q1, .ref q2, .int 0, .int 0, .ref q3, .ref q4, .ref q5, .int 0, .int 0, .int 0, .int 0, .long 0, .int 0, .int 0, .null, .null, .null, .null, .null, .null, .int 0])), (q1, .inl (gI g, 75, .inl (fun _ => 0))), (q2, .inl (gI g, 7, .inl (fun _ => 0))), (q3, .inl (gI g, 75, .inl (fun _ => 0))), (q4, .inl (gI g, 75, .inl (fun _ => 0))), (q5, .inl (gI g, 120, .inl (fun _ => 0))), (q6, .inl (gI g, 4, .inl (fun _ => 0)))] := hH
  refine xputF C hin hE hH 0 rfl rfl inlX6 tyX6 tyX6_ok nmX6 14 (by decide) tw_4_2 rfl rfl rfl rfl rfl rfl (Nat.le_of_ble_eq_true rfl) dX6_init_48 (fun H locs hH => ?_)
  have hH : Hp g A s H locs [(h0, .inr (4, [.ref q1, .ref q2, .int 0, .int 0, .ref q3, .ref q4, .ref q5, .int 0, .int 0, .int 0, .int 0, .long 0, .int 0, .int 0, .ref q6, .null, .null, .null, .null, .null, .int 0])), (q1, .inl (gI g, 75, .inl (fun _ => 0))), (q2, .inl (gI g, 7, .inl (fun _ => 0))), (q3, .inl (gI g, 75, .inl (fun _ => 0))), (q4, .inl (gI g, 75, .inl (fun _ => 0))), (q5, .inl (gI g, 120, .inl (fun _ => 0))), (q6, .inl (gI g, 4, .inl (fun _ => 0)))] := hH
  refine lv_aload_n hx hb dX6_init_51 rfl (lv_at hl 0 rfl) ?_
  refine lv_iconst (v := 4) hx hb dX6_init_52 (by decide) ?_
  refine xnewI C hE hA hH 4 (by decide) rfl (Nat.le_of_ble_eq_true rfl) (Nat.le_of_ble_eq_true rfl) (Nat.le_of_ble_eq_true rfl) tw_2_4 dX6_init_53 (fun q7 H hH => ?_)
  have hH : Hp g A s H _ [(h0, .inr (4, [.ref q1, .ref q2, .int 0, .int 0, .ref q3, .ref q4, .ref q5, .int 0, .int 0, .int 0, .int 0, .long 0, .int 0, .int 0, .ref q6, .null, .null, .null, .null, .null, .int 0])), (q1, .inl (gI g, 75, .inl (fun _ => 0))), (q2, .inl (gI g, 7, .inl (fun _ => 0))), (q3, .inl (gI g, 75, .inl (fun _ => 0))), (q4, .inl (gI g, 75, .inl (fun _ => 0))), (q5, .inl (gI g, 120, .inl (fun _ => 0))), (q6, .inl (gI g, 4, .inl (fun _ => 0))), (q7, .inl (gI g, 4, .inl (fun _ => 0)))] := hH
  refine xputF C hin hE hH 0 rfl rfl inlX6 tyX6 tyX6_ok nmX6 15 (by decide) tw_4_3 rfl rfl rfl rfl rfl rfl (Nat.le_of_ble_eq_true rfl) dX6_init_55 (fun H locs hH => ?_)
  have hH : Hp g A s H locs [(h0, .inr (4, [.ref q1, .ref q2, .int 0, .int 0, .ref q3, .ref q4, .ref q5, .int 0, .int 0, .int 0, .int 0, .long 0, .int 0, .int 0, .ref q6, .ref q7, .null, .null, .null, .null, .int 0])), (q1, .inl (gI g, 75, .inl (fun _ => 0))), (q2, .inl (gI g, 7, .inl (fun _ => 0))), (q3, .inl (gI g, 75, .inl (fun _ => 0))), (q4, .inl (gI g, 75, .inl (fun _ => 0))), (q5, .inl (gI g, 120, .inl (fun _ => 0))), (q6, .inl (gI g, 4, .inl (fun _ => 0))), (q7, .inl (gI g, 4, .inl (fun _ => 0)))] := hH
  refine lv_aload_n hx hb dX6_init_58 rfl (lv_at hl 0 rfl) ?_
  refine lv_sipush (v := 160) hx hb dX6_init_59 (by decide) ?_
  refine xnewJ C hE hA hH 160 (by decide) rfl (Nat.le_of_ble_eq_true rfl) (Nat.le_of_ble_eq_true rfl) (Nat.le_of_ble_eq_true rfl) tw_3_13 dX6_init_62 (fun q8 H hH => ?_)
  have hH : Hp g A s H _ [(h0, .inr (4, [.ref q1, .ref q2, .int 0, .int 0, .ref q3, .ref q4, .ref q5, .int 0, .int 0, .int 0, .int 0, .long 0, .int 0, .int 0, .ref q6, .ref q7, .null, .null, .null, .null, .int 0])), (q1, .inl (gI g, 75, .inl (fun _ => 0))), (q2, .inl (gI g, 7, .inl (fun _ => 0))), (q3, .inl (gI g, 75, .inl (fun _ => 0))), (q4, .inl (gI g, 75, .inl (fun _ => 0))), (q5, .inl (gI g, 120, .inl (fun _ => 0))), (q6, .inl (gI g, 4, .inl (fun _ => 0))), (q7, .inl (gI g, 4, .inl (fun _ => 0))), (q8, .inl (gJ g, 160, .inr (.inl (fun _ => 0))))] := hH
  refine xputF C hin hE hH 0 rfl rfl inlX6 tyX6 tyX6_ok nmX6 16 (by decide) tw_4_4 rfl rfl rfl rfl rfl rfl (Nat.le_of_ble_eq_true rfl) dX6_init_64 (fun H locs hH => ?_)
  have hH : Hp g A s H locs [(h0, .inr (4, [.ref q1, .ref q2, .int 0, .int 0, .ref q3, .ref q4, .ref q5, .int 0, .int 0, .int 0, .int 0, .long 0, .int 0, .int 0, .ref q6, .ref q7, .ref q8, .null, .null, .null, .int 0])), (q1, .inl (gI g, 75, .inl (fun _ => 0))), (q2, .inl (gI g, 7, .inl (fun _ => 0))), (q3, .inl (gI g, 75, .inl (fun _ => 0))), (q4, .inl (gI g, 75, .inl (fun _ => 0))), (q5, .inl (gI g, 120, .inl (fun _ => 0))), (q6, .inl (gI g, 4, .inl (fun _ => 0))), (q7, .inl (gI g, 4, .inl (fun _ => 0))), (q8, .inl (gJ g, 160, .inr (.inl (fun _ => 0))))] := hH
  refine lv_aload_n hx hb dX6_init_67 rfl (lv_at hl 0 rfl) ?_
  refine lv_bipush (v := 40) hx hb dX6_init_68 (by decide) ?_
  refine xnewJ C hE hA hH 40 (by decide) rfl (Nat.le_of_ble_eq_true rfl) (Nat.le_of_ble_eq_true rfl) (Nat.le_of_ble_eq_true rfl) tw_3_13 dX6_init_70 (fun q9 H hH => ?_)
  have hH : Hp g A s H _ [(h0, .inr (4, [.ref q1, .ref q2, .int 0, .int 0, .ref q3, .ref q4, .ref q5, .int 0, .int 0, .int 0, .int 0, .long 0, .int 0, .int 0, .ref q6, .ref q7, .ref q8, .null, .null, .null, .int 0])), (q1, .inl (gI g, 75, .inl (fun _ => 0))), (q2, .inl (gI g, 7, .inl (fun _ => 0))), (q3, .inl (gI g, 75, .inl (fun _ => 0))), (q4, .inl (gI g, 75, .inl (fun _ => 0))), (q5, .inl (gI g, 120, .inl (fun _ => 0))), (q6, .inl (gI g, 4, .inl (fun _ => 0))), (q7, .inl (gI g, 4, .inl (fun _ => 0))), (q8, .inl (gJ g, 160, .inr (.inl (fun _ => 0)))), (q9, .inl (gJ g, 40, .inr (.inl (fun _ => 0))))] := hH
  refine xputF C hin hE hH 0 rfl rfl inlX6 tyX6 tyX6_ok nmX6 17 (by decide) tw_4_5 rfl rfl rfl rfl rfl rfl (Nat.le_of_ble_eq_true rfl) dX6_init_72 (fun H locs hH => ?_)
  have hH : Hp g A s H locs [(h0, .inr (4, [.ref q1, .ref q2, .int 0, .int 0, .ref q3, .ref q4, .ref q5, .int 0, .int 0, .int 0, .int 0, .long 0, .int 0, .int 0, .ref q6, .ref q7, .ref q8, .ref q9, .null, .null, .int 0])), (q1, .inl (gI g, 75, .inl (fun _ => 0))), (q2, .inl (gI g, 7, .inl (fun _ => 0))), (q3, .inl (gI g, 75, .inl (fun _ => 0))), (q4, .inl (gI g, 75, .inl (fun _ => 0))), (q5, .inl (gI g, 120, .inl (fun _ => 0))), (q6, .inl (gI g, 4, .inl (fun _ => 0))), (q7, .inl (gI g, 4, .inl (fun _ => 0))), (q8, .inl (gJ g, 160, .inr (.inl (fun _ => 0)))), (q9, .inl (gJ g, 40, .inr (.inl (fun _ => 0))))] := hH
  refine lv_aload_n hx hb dX6_init_75 rfl (lv_at hl 0 rfl) ?_
  refine lv_bipush (v := 75) hx hb dX6_init_76 (by decide) ?_
  refine xnewI C hE hA hH 75 (by decide) rfl (Nat.le_of_ble_eq_true rfl) (Nat.le_of_ble_eq_true rfl) (Nat.le_of_ble_eq_true rfl) tw_2_4 dX6_init_78 (fun q10 H hH => ?_)
  have hH : Hp g A s H _ [(h0, .inr (4, [.ref q1, .ref q2, .int 0, .int 0, .ref q3, .ref q4, .ref q5, .int 0, .int 0, .int 0, .int 0, .long 0, .int 0, .int 0, .ref q6, .ref q7, .ref q8, .ref q9, .null, .null, .int 0])), (q1, .inl (gI g, 75, .inl (fun _ => 0))), (q2, .inl (gI g, 7, .inl (fun _ => 0))), (q3, .inl (gI g, 75, .inl (fun _ => 0))), (q4, .inl (gI g, 75, .inl (fun _ => 0))), (q5, .inl (gI g, 120, .inl (fun _ => 0))), (q6, .inl (gI g, 4, .inl (fun _ => 0))), (q7, .inl (gI g, 4, .inl (fun _ => 0))), (q8, .inl (gJ g, 160, .inr (.inl (fun _ => 0)))), (q9, .inl (gJ g, 40, .inr (.inl (fun _ => 0)))), (q10, .inl (gI g, 75, .inl (fun _ => 0)))] := hH
  refine xputF C hin hE hH 0 rfl rfl inlX6 tyX6 tyX6_ok nmX6 18 (by decide) tw_4_6 rfl rfl rfl rfl rfl rfl (Nat.le_of_ble_eq_true rfl) dX6_init_80 (fun H locs hH => ?_)
  have hH : Hp g A s H locs [(h0, .inr (4, [.ref q1, .ref q2, .int 0, .int 0, .ref q3, .ref q4, .ref q5, .int 0, .int 0, .int 0, .int 0, .long 0, .int 0, .int 0, .ref q6, .ref q7, .ref q8, .ref q9, .ref q10, .null, .int 0])), (q1, .inl (gI g, 75, .inl (fun _ => 0))), (q2, .inl (gI g, 7, .inl (fun _ => 0))), (q3, .inl (gI g, 75, .inl (fun _ => 0))), (q4, .inl (gI g, 75, .inl (fun _ => 0))), (q5, .inl (gI g, 120, .inl (fun _ => 0))), (q6, .inl (gI g, 4, .inl (fun _ => 0))), (q7, .inl (gI g, 4, .inl (fun _ => 0))), (q8, .inl (gJ g, 160, .inr (.inl (fun _ => 0)))), (q9, .inl (gJ g, 40, .inr (.inl (fun _ => 0)))), (q10, .inl (gI g, 75, .inl (fun _ => 0)))] := hH
  refine lv_aload_n hx hb dX6_init_83 rfl (lv_at hl 0 rfl) ?_
  refine lv_bipush (v := 75) hx hb dX6_init_84 (by decide) ?_
  refine xnewI C hE hA hH 75 (by decide) rfl (Nat.le_of_ble_eq_true rfl) (Nat.le_of_ble_eq_true rfl) (Nat.le_of_ble_eq_true rfl) tw_2_4 dX6_init_86 (fun q11 H hH => ?_)
  have hH : Hp g A s H _ [(h0, .inr (4, [.ref q1, .ref q2, .int 0, .int 0, .ref q3, .ref q4, .ref q5, .int 0, .int 0, .int 0, .int 0, .long 0, .int 0, .int 0, .ref q6, .ref q7, .ref q8, .ref q9, .ref q10, .null, .int 0])), (q1, .inl (gI g, 75, .inl (fun _ => 0))), (q2, .inl (gI g, 7, .inl (fun _ => 0))), (q3, .inl (gI g, 75, .inl (fun _ => 0))), (q4, .inl (gI g, 75, .inl (fun _ => 0))), (q5, .inl (gI g, 120, .inl (fun _ => 0))), (q6, .inl (gI g, 4, .inl (fun _ => 0))), (q7, .inl (gI g, 4, .inl (fun _ => 0))), (q8, .inl (gJ g, 160, .inr (.inl (fun _ => 0)))), (q9, .inl (gJ g, 40, .inr (.inl (fun _ => 0)))), (q10, .inl (gI g, 75, .inl (fun _ => 0))), (q11, .inl (gI g, 75, .inl (fun _ => 0)))] := hH
  refine xputF C hin hE hH 0 rfl rfl inlX6 tyX6 tyX6_ok nmX6 19 (by decide) tw_4_7 rfl rfl rfl rfl rfl rfl (Nat.le_of_ble_eq_true rfl) dX6_init_88 (fun H locs hH => ?_)
  have hH : Hp g A s H locs [(h0, .inr (4, [.ref q1, .ref q2, .int 0, .int 0, .ref q3, .ref q4, .ref q5, .int 0, .int 0, .int 0, .int 0, .long 0, .int 0, .int 0, .ref q6, .ref q7, .ref q8, .ref q9, .ref q10, .ref q11, .int 0])), (q1, .inl (gI g, 75, .inl (fun _ => 0))), (q2, .inl (gI g, 7, .inl (fun _ => 0))), (q3, .inl (gI g, 75, .inl (fun _ => 0))), (q4, .inl (gI g, 75, .inl (fun _ => 0))), (q5, .inl (gI g, 120, .inl (fun _ => 0))), (q6, .inl (gI g, 4, .inl (fun _ => 0))), (q7, .inl (gI g, 4, .inl (fun _ => 0))), (q8, .inl (gJ g, 160, .inr (.inl (fun _ => 0)))), (q9, .inl (gJ g, 40, .inr (.inl (fun _ => 0)))), (q10, .inl (gI g, 75, .inl (fun _ => 0))), (q11, .inl (gI g, 75, .inl (fun _ => 0)))] := hH
  refine W.widen (k := 11) (n := 710) (Nat.le_of_ble_eq_true rfl) (Nat.le_of_ble_eq_true rfl) ?_
  refine lv_aload_n hx hb dX6_init_91 rfl (lv_at hl 0 rfl) ?_
  refine gf_RX6_7 C hE hH 0 rfl rfl dX6_init_92 ?_
  refine lv_iconst (v := 1) hx hb dX6_init_95 (by decide) ?_
  refine lv_bipush (v := 9) hx hb dX6_init_96 (by decide) ?_
  refine xiast C hE hH 1 rfl (by decide) (fun f : M1 => [(h0, .inr (4, [.ref q1, .ref q2, .int 0, .int 0, .ref q3, .ref q4, .ref q5, .int 0, .int 0, .int 0, .int 0, .long 0, .int 0, .int 0, .ref q6, .ref q7, .ref q8, .ref q9, .ref q10, .ref q11, .int 0])), (q1, .inl (gI g, 75, .inl f)), (q2, .inl (gI g, 7, .inl (fun _ => 0))), (q3, .inl (gI g, 75, .inl (fun _ => 0))), (q4, .inl (gI g, 75, .inl (fun _ => 0))), (q5, .inl (gI g, 120, .inl (fun _ => 0))), (q6, .inl (gI g, 4, .inl (fun _ => 0))), (q7, .inl (gI g, 4, .inl (fun _ => 0))), (q8, .inl (gJ g, 160, .inr (.inl (fun _ => 0)))), (q9, .inl (gJ g, 40, .inr (.inl (fun _ => 0)))), (q10, .inl (gI g, 75, .inl (fun _ => 0))), (q11, .inl (gI g, 75, .inl (fun _ => 0)))]) (upd (fun _ => 0) 1 9) rfl dX6_init_98 (fun x9 ex H locs hH => ?_)
  subst ex
  refine lv_aload_n hx hb dX6_init_99 rfl (lv_at hl 0 rfl) ?_
  refine gf_RX6_7 C hE hH 0 rfl rfl dX6_init_100 ?_
  refine lv_iconst (v := 2) hx hb dX6_init_103 (by decide) ?_
  refine lv_bipush (v := 100) hx hb dX6_init_104 (by decide) ?_
  refine xiast C hE hH 1 rfl (by decide) (fun f : M1 => [(h0, .inr (4, [.ref q1, .ref q2, .int 0, .int 0, .ref q3, .ref q4, .ref q5, .int 0, .int 0, .int 0, .int 0, .long 0, .int 0, .int 0, .ref q6, .ref q7, .ref q8, .ref q9, .ref q10, .ref q11, .int 0])), (q1, .inl (gI g, 75, .inl f)), (q2, .inl (gI g, 7, .inl (fun _ => 0))), (q3, .inl (gI g, 75, .inl (fun _ => 0))), (q4, .inl (gI g, 75, .inl (fun _ => 0))), (q5, .inl (gI g, 120, .inl (fun _ => 0))), (q6, .inl (gI g, 4, .inl (fun _ => 0))), (q7, .inl (gI g, 4, .inl (fun _ => 0))), (q8, .inl (gJ g, 160, .inr (.inl (fun _ => 0)))), (q9, .inl (gJ g, 40, .inr (.inl (fun _ => 0)))), (q10, .inl (gI g, 75, .inl (fun _ => 0))), (q11, .inl (gI g, 75, .inl (fun _ => 0)))]) (upd (upd (fun _ => 0) 1 9) 2 100) rfl dX6_init_106 (fun x9 ex H locs hH => ?_)
  subst ex
  refine lv_aload_n hx hb dX6_init_107 rfl (lv_at hl 0 rfl) ?_
  refine gf_RX6_7 C hE hH 0 rfl rfl dX6_init_108 ?_
  refine lv_iconst (v := 3) hx hb dX6_init_111 (by decide) ?_
  refine lv_iconst (v := 2) hx hb dX6_init_112 (by decide) ?_
  refine xiast C hE hH 1 rfl (by decide) (fun f : M1 => [(h0, .inr (4, [.ref q1, .ref q2, .int 0, .int 0, .ref q3, .ref q4, .ref q5, .int 0, .int 0, .int 0, .int 0, .long 0, .int 0, .int 0, .ref q6, .ref q7, .ref q8, .ref q9, .ref q10, .ref q11, .int 0])), (q1, .inl (gI g, 75, .inl f)), (q2, .inl (gI g, 7, .inl (fun _ => 0))), (q3, .inl (gI g, 75, .inl (fun _ => 0))), (q4, .inl (gI g, 75, .inl (fun _ => 0))), (q5, .inl (gI g, 120, .inl (fun _ => 0))), (q6, .inl (gI g, 4, .inl (fun _ => 0))), (q7, .inl (gI g, 4, .inl (fun _ => 0))), (q8, .inl (gJ g, 160, .inr (.inl (fun _ => 0)))), (q9, .inl (gJ g, 40, .inr (.inl (fun _ => 0)))), (q10, .inl (gI g, 75, .inl (fun _ => 0))), (q11, .inl (gI g, 75, .inl (fun _ => 0)))]) (upd (upd (upd (fun _ => 0) 1 9) 2 100) 3 2) rfl dX6_init_113 (fun x9 ex H locs hH => ?_)
  subst ex
  rw [rowI_0] at hH
  have lp : ∀ n i, i + n = 28 → ∀ (H : Heap) (locs : List Loc) (ls : Array Slot), Hp g A s H locs [(h0, .inr (4, [.ref q1, .ref q2, .int 0, .int 0, .ref q3, .ref q4, .ref q5, .int 0, .int 0, .int 0, .int 0, .long 0, .int 0, .int 0, .ref q6, .ref q7, .ref q8, .ref q9, .ref q10, .ref q11, .int 0])), (q1, .inl (gI g, 75, .inl (rowI i))), (q2, .inl (gI g, 7, .inl (fun _ => 0))), (q3, .inl (gI g, 75, .inl (fun _ => 0))), (q4, .inl (gI g, 75, .inl (fun _ => 0))), (q5, .inl (gI g, 120, .inl (fun _ => 0))), (q6, .inl (gI g, 4, .inl (fun _ => 0))), (q7, .inl (gI g, 4, .inl (fun _ => 0))), (q8, .inl (gJ g, 160, .inr (.inl (fun _ => 0)))), (q9, .inl (gJ g, 40, .inr (.inl (fun _ => 0)))), (q10, .inl (gI g, 75, .inl (fun _ => 0))), (q11, .inl (gI g, 75, .inl (fun _ => 0)))] → lv_has ls 2 [(0, .ref h0), (1, .int (nI i))] → W p l e rmX6_init s m args below meth c H locs 11 710 (MQ below (QcN g A h0 (fun ad => wM g ad G0 Y2)) args s 11 710 A) (F0 m 116 ls []) := by
    intro n
    induction n with
    | zero =>
      intro i hi H locs ls hH hl
      refine lv_iload_n hx hb dX6_init_116 rfl (lv_at hl 1 rfl) ?_
      refine lv_bipush (v := 28) hx hb dX6_init_117 (by decide) ?_
      refine lv_icmp_ge (tgt := 143) hx hb dX6_init_119 (by decide) (fun c9 => ?_) (fun c9 => ?_)
      · have e28 : i = 28 := by omega
        subst e28
        exact retN (wf := fun ad => wM g ad G0 Y2) C (fun k => ([h0, q1, q2, q3, q4, q5, q6, q7, q10, q11, q8, q9] : List Nat).getD k 0) rfl ⟨P_map hH.1 (is := [0, 1, 2, 3, 4, 5, 6, 7, 10, 11, 8, 9]) rfl, hH.2.1.sub [0, 1, 2, 3, 4, 5, 6, 7, 10, 11, 8, 9] (by decide) rfl, hH.2.2⟩ dX6_init_143
      · exact absurd (show (28 : Int32) ≤ nI i from i_le (a := 28) (by decide) (by omega) (by omega)) c9
    | succ n ih =>
      intro i hi H locs ls hH hl
      refine lv_iload_n hx hb dX6_init_116 rfl (lv_at hl 1 rfl) ?_
      refine lv_bipush (v := 28) hx hb dX6_init_117 (by decide) ?_
      refine lv_icmp_ge (tgt := 143) hx hb dX6_init_119 (by decide) (fun c9 => ?_) (fun c9 => ?_)
      · exact absurd c9 (show ¬ (28 : Int32) ≤ nI i from i_nle (a := 28) (by decide) (by omega) (by omega))
      · refine lv_aload_n hx hb dX6_init_122 rfl (lv_at hl 0 rfl) ?_
        refine gf_RX6_7 C hE hH 0 rfl rfl dX6_init_123 ?_
        refine lv_bipush (v := 7) hx hb dX6_init_126 (by decide) ?_
        refine lv_iload_n hx hb dX6_init_128 rfl (lv_at hl 1 rfl) ?_
        refine lv_iadd hx hb dX6_init_129 ?_
        refine lv_topi (fun u eu => ?_)
        have eu : u = nI (7 + i) := eu.trans (n_add 7 i)
        subst eu
        refine lv_iconst (v := 5) hx hb dX6_init_130 (by decide) ?_
        refine lv_iload_n hx hb dX6_init_131 rfl (lv_at hl 1 rfl) ?_
        refine lv_imul hx hb dX6_init_132 ?_
        refine lv_bipush (v := 13) hx hb dX6_init_133 (by decide) ?_
        refine lv_irem hx hb dX6_init_135 (by decide) ?_
        refine lv_topi (fun v ev => ?_)
        have ev : v = nI (5 * i % 13) := ev.trans (ir13 (by omega))
        subst ev
        refine xiast C hE hH 1 rfl (n_inb (by omega) (by omega)) (fun f : M1 => [(h0, .inr (4, [.ref q1, .ref q2, .int 0, .int 0, .ref q3, .ref q4, .ref q5, .int 0, .int 0, .int 0, .int 0, .long 0, .int 0, .int 0, .ref q6, .ref q7, .ref q8, .ref q9, .ref q10, .ref q11, .int 0])), (q1, .inl (gI g, 75, .inl f)), (q2, .inl (gI g, 7, .inl (fun _ => 0))), (q3, .inl (gI g, 75, .inl (fun _ => 0))), (q4, .inl (gI g, 75, .inl (fun _ => 0))), (q5, .inl (gI g, 120, .inl (fun _ => 0))), (q6, .inl (gI g, 4, .inl (fun _ => 0))), (q7, .inl (gI g, 4, .inl (fun _ => 0))), (q8, .inl (gJ g, 160, .inr (.inl (fun _ => 0)))), (q9, .inl (gJ g, 40, .inr (.inl (fun _ => 0)))), (q10, .inl (gI g, 75, .inl (fun _ => 0))), (q11, .inl (gI g, 75, .inl (fun _ => 0)))]) (rowI (i + 1)) (by rw [n_cl (by omega), rowI_s]; rfl) dX6_init_136 (fun x9 ex H locs hH => ?_)
        subst ex
        refine lv_iinc (v := nI (i + 1)) (lv' := [(1, .int (nI (i + 1))), (0, .ref h0)]) hx hb dX6_init_137 hl (k := 1) rfl (n_add i 1) (by decide) rfl (fun ls hl => ?_)
        refine lv_goto (tgt := 116) hx hb dX6_init_140 (by decide) ?_
        exact ih (i + 1) (by omega) _ _ _ hH (lv_sub hl [1, 0] rfl)
  refine lv_iconst (v := 0) hx hb dX6_init_114 (by decide) ?_
  refine lv_istore_n (lv' := [(1, .int 0), (0, .ref h0)]) hx hb dX6_init_115 rfl hl (by decide) rfl (fun ls hl => ?_)
  exact lp 28 0 rfl _ _ _ hH (lv_sub hl [1, 0] rfl)
