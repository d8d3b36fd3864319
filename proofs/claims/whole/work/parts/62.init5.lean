def rmX5_init : Room := { frames := 2, cells := 33, slots := 558, locals := 33 }
theorem va4 (x0 x1 x2 x3 : Nat) (ad : Nat → Nat) (h0 : ad 25 = x0) (h1 : ad 27 = x1) (h2 : ad 29 = x2) (h3 : ad 31 = x3) : va_up (va_up (va_up (va_up (fun _ => none) 0 (some x0)) 1 (some x1)) 2 (some x2)) 3 (some x3) = fun j => if j < 4 then some (ad (25 + 2 * j)) else none := by
  subst h0; subst h1; subst h2; subst h3
  funext j
  match j with
  | 0 => rfl
  | 1 => rfl
  | 2 => rfl
  | 3 => rfl
  | j + 4 =>
    rw [if_neg (by omega)]
    unfold va_up
    rw [if_neg (by omega), if_neg (by omega), if_neg (by omega), if_neg (by omega)]
set_option maxHeartbeats 4000000 in
set_option maxRecDepth 100000 in
theorem kX5_init (l : Launch) (g : Gl) (h0 sz : Nat) : MetN l yX5_init (Cond.code yX5_init cX5_init 2 none :: wsL_law) rmX5_init h0 g [(h0, .inr (3, [.null, .null, .null, .int 0, .null, .null, .null]))] sz (fun ad => wX g ad L0 L0 L0 0 T0 Y2 Z2 Z1) 33 558 := by
  refine openN (by decide +kernel) (Nat.le_of_ble_eq_true rfl) ?_
  intro p e s m args below meth c A C hin hAO hE hA hH ls hl
  have C : Cx p s m args meth c cX5_init 2 none RX5 := C
  have hin : meth.name = "<init>" := hin
  obtain ⟨hx, hb, hml, hown, hT, hr, hlk⟩ := id C
  refine lv_aload_n hx hb dX5_init_0 rfl (lv_at hl 0 rfl) ?_
  refine xobj C hl.1 tw_1_10 tw_1_11 tw_1_12 dX5_init_1 (Nat.le_of_ble_eq_true rfl) (Nat.le_of_ble_eq_true rfl) ?_
  refine lv_aload_n hx hb dX5_init_4 rfl (lv_at hl 0 rfl) ?_
  refine xnew C hE hA hH 0 inlX1 tyX1 tyX1_ok tw_1_13 tw_1_14 tw_1_15 rfl [.null, .int 0, .int 0, .int 0, .int 0, .int 0, .int 0, .int 0, .null, .null, .null, .null, .null, .int 0, .int 0] (fun j hj => by rcases (show j = 0 ∨ j = 1 ∨ j = 2 ∨ j = 3 ∨ j = 4 ∨ j = 5 ∨ j = 6 ∨ j = 7 ∨ j = 8 ∨ j = 9 ∨ j = 10 ∨ j = 11 ∨ j = 12 ∨ j = 13 ∨ j = 14 by omega) with rfl | rfl | rfl | rfl | rfl | rfl | rfl | rfl | rfl | rfl | rfl | rfl | rfl | rfl | rfl <;> rfl) (Nat.le_of_ble_eq_true rfl) (Nat.le_of_ble_eq_true rfl) dX5_init_5 (fun q1 H hH => ?_)
  have hH : Hp g A s H _ ([(h0, .inr (3, [.null, .null, .null, .int 0, .null, .null, .null]))] ++ [(q1, .inr (0, [.null, .int 0, .int 0, .int 0, .int 0, .int 0, .int 0, .int 0, .null, .null, .null, .null, .null, .int 0, .int 0]))]) := hH
  refine lv_dup hx hb dX5_init_8 rfl ?_
  refine aftN (wr := [(h0, .inr (3, [.null, .null, .null, .int 0, .null, .null, .null]))]) (runI C hE hAO hA hH [1] rfl rfl (kX1_init l g q1 _) tw_2_6 tw_2_7 tw_1_15 tw_2_8 rfl (by decide +kernel) rfl rfl ⟨Nat.le_of_ble_eq_true rfl, Nat.le_of_ble_eq_true rfl⟩ hl.1 (rest := [.ref q1, .ref h0]) rfl (Nat.le_of_ble_eq_true rfl) dX5_init_9 ⟨Nat.le_of_ble_eq_true rfl, Nat.le_of_ble_eq_true rfl⟩) hA hH [1] [0] rfl rfl (by decide) (by decide) (fun a1 ea H locs hN => ?_)
  clear hH
  subst ea
  have hH : Hp g A s H locs ([(h0, .inr (3, [.null, .null, .null, .int 0, .null, .null, .null]))] ++ wL g a1 L0) := hN
  clear hN
  refine xputF C hin hE hH 0 rfl rfl inlX5 tyX5 tyX5_ok nmX5 0 (by decide) tw_1_16 rfl rfl rfl rfl rfl rfl (Nat.le_of_ble_eq_true rfl) dX5_init_12 (fun H locs hH => ?_)
  have hH : Hp g A s H locs ([(h0, .inr (3, [.ref (a1 0), .null, .null, .int 0, .null, .null, .null]))] ++ wL g a1 L0) := hH
  refine lv_aload_n hx hb dX5_init_15 rfl (lv_at hl 0 rfl) ?_
  refine xnew C hE hA hH 0 inlX1 tyX1 tyX1_ok tw_1_13 tw_1_14 tw_1_15 rfl [.null, .int 0, .int 0, .int 0, .int 0, .int 0, .int 0, .int 0, .null, .null, .null, .null, .null, .int 0, .int 0] (fun j hj => by rcases (show j = 0 ∨ j = 1 ∨ j = 2 ∨ j = 3 ∨ j = 4 ∨ j = 5 ∨ j = 6 ∨ j = 7 ∨ j = 8 ∨ j = 9 ∨ j = 10 ∨ j = 11 ∨ j = 12 ∨ j = 13 ∨ j = 14 by omega) with rfl | rfl | rfl | rfl | rfl | rfl | rfl | rfl | rfl | rfl | rfl | rfl | rfl | rfl | rfl <;> rfl) (Nat.le_of_ble_eq_true rfl) (Nat.le_of_ble_eq_true rfl) dX5_init_16 (fun q2 H hH => ?_)
  have hH : Hp g A s H _ ([(h0, .inr (3, [.ref (a1 0), .null, .null, .int 0, .null, .null, .null]))] ++ wL g a1 L0 ++ [(q2, .inr (0, [.null, .int 0, .int 0, .int 0, .int 0, .int 0, .int 0, .int 0, .null, .null, .null, .null, .null, .int 0, .int 0]))]) := hH
  refine lv_dup hx hb dX5_init_19 rfl ?_
  refine aftN (wr := [(h0, .inr (3, [.ref (a1 0), .null, .null, .int 0, .null, .null, .null]))] ++ wL g a1 L0) (runI C hE hAO hA hH [8] rfl rfl (kX1_init l g q2 _) tw_2_6 tw_2_7 tw_1_15 tw_2_8 rfl (by decide +kernel) rfl rfl ⟨Nat.le_of_ble_eq_true rfl, Nat.le_of_ble_eq_true rfl⟩ hl.1 (rest := [.ref q2, .ref h0]) rfl (Nat.le_of_ble_eq_true rfl) dX5_init_20 ⟨Nat.le_of_ble_eq_true rfl, Nat.le_of_ble_eq_true rfl⟩) hA hH [8] [0, 1, 2, 3, 4, 5, 6, 7] rfl rfl (by decide) (by decide) (fun a2 ea H locs hN => ?_)
  clear hH
  subst ea
  have hH : Hp g A s H locs ([(h0, .inr (3, [.ref (a1 0), .null, .null, .int 0, .null, .null, .null]))] ++ wL g a1 L0 ++ wL g a2 L0) := hN
  clear hN
  refine xputF C hin hE hH 0 rfl rfl inlX5 tyX5 tyX5_ok nmX5 1 (by decide) tw_1_17 rfl rfl rfl rfl rfl rfl (Nat.le_of_ble_eq_true rfl) dX5_init_23 (fun H locs hH => ?_)
  have hH : Hp g A s H locs ([(h0, .inr (3, [.ref (a1 0), .ref (a2 0), .null, .int 0, .null, .null, .null]))] ++ wL g a1 L0 ++ wL g a2 L0) := hH
  refine lv_aload_n hx hb dX5_init_26 rfl (lv_at hl 0 rfl) ?_
  refine xnew C hE hA hH 0 inlX1 tyX1 tyX1_ok tw_1_13 tw_1_14 tw_1_15 rfl [.null, .int 0, .int 0, .int 0, .int 0, .int 0, .int 0, .int 0, .null, .null, .null, .null, .null, .int 0, .int 0] (fun j hj => by rcases (show j = 0 ∨ j = 1 ∨ j = 2 ∨ j = 3 ∨ j = 4 ∨ j = 5 ∨ j = 6 ∨ j = 7 ∨ j = 8 ∨ j = 9 ∨ j = 10 ∨ j = 11 ∨ j = 12 ∨ j = 13 ∨ j = 14 by omega) with rfl | rfl | rfl | rfl | rfl | rfl | rfl | rfl | rfl | rfl | rfl | rfl | rfl | rfl | rfl <;> rfl) (Nat.le_of_ble_eq_true rfl) (Nat.le_of_ble_eq_true rfl) dX5_init_27 (fun q3 H hH => ?_)
  have hH : Hp g A s H _ ([(h0, .inr (3, [.ref (a1 0), .ref (a2 0), .null, .int 0, .null, .null, .null]))] ++ wL g a1 L0 ++ wL g a2 L0 ++ [(q3, .inr (0, [.null, .int 0, .int 0, .int 0, .int 0, .int 0, .int 0, .int 0, .null, .null, .null, .null, .null, .int 0, .int 0]))]) := hH
  refine lv_dup hx hb dX5_init_30 rfl ?_
  refine aftN (wr := [(h0, .inr (3, [.ref (a1 0), .ref (a2 0), .null, .int 0, .null, .null, .null]))] ++ wL g a1 L0 ++ wL g a2 L0) (runI C hE hAO hA hH [15] rfl rfl (kX1_init l g q3 _) tw_2_6 tw_2_7 tw_1_15 tw_2_8 rfl (by decide +kernel) rfl rfl ⟨Nat.le_of_ble_eq_true rfl, Nat.le_of_ble_eq_true rfl⟩ hl.1 (rest := [.ref q3, .ref h0]) rfl (Nat.le_of_ble_eq_true rfl) dX5_init_31 ⟨Nat.le_of_ble_eq_true rfl, Nat.le_of_ble_eq_true rfl⟩) hA hH [15] [0, 1, 2, 3, 4, 5, 6, 7, 8, 9, 10, 11, 12, 13, 14] rfl rfl (by decide) (by decide) (fun a3 ea H locs hN => ?_)
  clear hH
  subst ea
  have hH : Hp g A s H locs ([(h0, .inr (3, [.ref (a1 0), .ref (a2 0), .null, .int 0, .null, .null, .null]))] ++ wL g a1 L0 ++ wL g a2 L0 ++ wL g a3 L0) := hN
  clear hN
  refine xputF C hin hE hH 0 rfl rfl inlX5 tyX5 tyX5_ok nmX5 2 (by decide) tw_1_18 rfl rfl rfl rfl rfl rfl (Nat.le_of_ble_eq_true rfl) dX5_init_34 (fun H locs hH => ?_)
  have hH : Hp g A s H locs ([(h0, .inr (3, [.ref (a1 0), .ref (a2 0), .ref (a3 0), .int 0, .null, .null, .null]))] ++ wL g a1 L0 ++ wL g a2 L0 ++ wL g a3 L0) := hH
  refine lv_aload_n hx hb dX5_init_37 rfl (lv_at hl 0 rfl) ?_
  refine lv_iconst (v := 0) hx hb dX5_init_38 (by decide) ?_
  refine xputW C hE hH 0 rfl rfl inlX5 tyX5 tyX5_ok nmX5 3 (by decide) tw_1_19 rfl rfl rfl rfl rfl (Nat.le_of_ble_eq_true rfl) dX5_init_39 (fun H locs hH => ?_)
  have hH : Hp g A s H locs ([(h0, .inr (3, [.ref (a1 0), .ref (a2 0), .ref (a3 0), .int 0, .null, .null, .null]))] ++ wL g a1 L0 ++ wL g a2 L0 ++ wL g a3 L0) := hH
  refine lv_aload_n hx hb dX5_init_42 rfl (lv_at hl 0 rfl) ?_
  refine xnew C hE hA hH 2 inlX3 tyX3 tyX3_ok tw_1_20 tw_1_21 tw_1_22 rfl [.null, .int 0, .int 0, .int 0, .int 0, .int 0] (fun j hj => by rcases (show j = 0 ∨ j = 1 ∨ j = 2 ∨ j = 3 ∨ j = 4 ∨ j = 5 by omega) with rfl | rfl | rfl | rfl | rfl | rfl <;> rfl) (Nat.le_of_ble_eq_true rfl) (Nat.le_of_ble_eq_true rfl) dX5_init_43 (fun q4 H hH => ?_)
  have hH : Hp g A s H _ ([(h0, .inr (3, [.ref (a1 0), .ref (a2 0), .ref (a3 0), .int 0, .null, .null, .null]))] ++ wL g a1 L0 ++ wL g a2 L0 ++ wL g a3 L0 ++ [(q4, .inr (2, [.null, .int 0, .int 0, .int 0, .int 0, .int 0]))]) := hH
  refine lv_dup hx hb dX5_init_46 rfl ?_
  refine aftN (wr := [(h0, .inr (3, [.ref (a1 0), .ref (a2 0), .ref (a3 0), .int 0, .null, .null, .null]))] ++ wL g a1 L0 ++ wL g a2 L0 ++ wL g a3 L0) (runIN (host := RX5) C hE hAO hA hH [22] rfl rfl (kX3_init l g q4 _) hE.2.2.1 tw_3_1 tw_1_22 tw_3_2 rfl (by decide +kernel) rfl rfl ⟨Nat.le_of_ble_eq_true rfl, Nat.le_of_ble_eq_true rfl⟩ hl.1 (rest := [.ref q4, .ref h0]) rfl (Nat.le_of_ble_eq_true rfl) dX5_init_47 ⟨Nat.le_of_ble_eq_true rfl, Nat.le_of_ble_eq_true rfl⟩) hA hH [22] [0, 1, 2, 3, 4, 5, 6, 7, 8, 9, 10, 11, 12, 13, 14, 15, 16, 17, 18, 19, 20, 21] rfl rfl (by decide) (by decide) (fun a4 ea H locs hN => ?_)
  clear hH
  subst ea
  have hH : Hp g A s H locs ([(h0, .inr (3, [.ref (a1 0), .ref (a2 0), .ref (a3 0), .int 0, .null, .null, .null]))] ++ wL g a1 L0 ++ wL g a2 L0 ++ wL g a3 L0 ++ wT g a4 T0) := hN
  clear hN
  refine xputF C hin hE hH 0 rfl rfl inlX5 tyX5 tyX5_ok nmX5 4 (by decide) tw_1_23 rfl rfl rfl rfl rfl rfl (Nat.le_of_ble_eq_true rfl) dX5_init_50 (fun H locs hH => ?_)
  have hH : Hp g A s H locs ([(h0, .inr (3, [.ref (a1 0), .ref (a2 0), .ref (a3 0), .int 0, .ref (a4 0), .null, .null]))] ++ wL g a1 L0 ++ wL g a2 L0 ++ wL g a3 L0 ++ wT g a4 T0) := hH
  refine lv_aload_n hx hb dX5_init_53 rfl (lv_at hl 0 rfl) ?_
  refine lv_iconst (v := 4) hx hb dX5_init_54 (by decide) ?_
  refine xnewQ C hE hAO hA hH 4 (by decide) rfl (Nat.le_of_ble_eq_true rfl) (Nat.le_of_ble_eq_true rfl) (Nat.le_of_ble_eq_true rfl) tw_2_0 dX5_init_55 (fun qa H hH => ?_)
  have hH : Hp g A s H _ ([(h0, .inr (3, [.ref (a1 0), .ref (a2 0), .ref (a3 0), .int 0, .ref (a4 0), .null, .null]))] ++ wL g a1 L0 ++ wL g a2 L0 ++ wL g a3 L0 ++ wT g a4 T0 ++ [(qa, .inl (gS g, 4, .inr (.inr (.inr (.inr (fun _ => none))))))]) := hH
  refine xputF C hin hE hH 0 rfl rfl inlX5 tyX5 tyX5_ok nmX5 5 (by decide) tw_2_1 rfl rfl rfl rfl rfl rfl (Nat.le_of_ble_eq_true rfl) dX5_init_58 (fun H locs hH => ?_)
  have hH : Hp g A s H locs ([(h0, .inr (3, [.ref (a1 0), .ref (a2 0), .ref (a3 0), .int 0, .ref (a4 0), .ref qa, .null]))] ++ wL g a1 L0 ++ wL g a2 L0 ++ wL g a3 L0 ++ wT g a4 T0 ++ [(qa, .inl (gS g, 4, .inr (.inr (.inr (.inr (fun _ => none))))))]) := hH
  refine lv_iconst (v := 0) hx hb dX5_init_61 (by decide) ?_
  refine lv_istore_n (lv' := [(1, .int 0), (0, .ref h0)]) hx hb dX5_init_62 rfl hl (by decide) rfl (fun ls hl => ?_)
  refine lv_iload_n hx hb dX5_init_63 rfl (lv_at hl 0 rfl) ?_
  refine lv_iconst (v := 4) hx hb dX5_init_64 (by decide) ?_
  refine lv_icmp_ge (tgt := 87) hx hb dX5_init_65 (by decide) (fun c9 => absurd c9 (by decide)) (fun _ => ?_)
  refine lv_aload_n hx hb dX5_init_68 rfl (lv_at hl 1 rfl) ?_
  refine gf_RX5_35 C hE hH 0 rfl rfl dX5_init_69 ?_
  refine lv_iload_n hx hb dX5_init_72 rfl (lv_at hl 0 rfl) ?_
  refine xnew C hE hA hH 1 inlX2 tyX2 tyX2_ok tw_2_0 tw_2_2 tw_2_3 rfl [.null, .int 0, .int 0] (fun j hj => by rcases (show j = 0 ∨ j = 1 ∨ j = 2 by omega) with rfl | rfl | rfl <;> rfl) (Nat.le_of_ble_eq_true rfl) (Nat.le_of_ble_eq_true rfl) dX5_init_73 (fun q5 H hH => ?_)
  have hH : Hp g A s H _ ([(h0, .inr (3, [.ref (a1 0), .ref (a2 0), .ref (a3 0), .int 0, .ref (a4 0), .ref qa, .null]))] ++ wL g a1 L0 ++ wL g a2 L0 ++ wL g a3 L0 ++ wT g a4 T0 ++ [(qa, .inl (gS g, 4, .inr (.inr (.inr (.inr (fun _ => none))))))] ++ [(q5, .inr (1, [.null, .int 0, .int 0]))]) := hH
  refine lv_dup hx hb dX5_init_76 rfl ?_
  refine aftN (wr := [(h0, .inr (3, [.ref (a1 0), .ref (a2 0), .ref (a3 0), .int 0, .ref (a4 0), .ref qa, .null]))] ++ wL g a1 L0 ++ wL g a2 L0 ++ wL g a3 L0 ++ wT g a4 T0 ++ [(qa, .inl (gS g, 4, .inr (.inr (.inr (.inr (fun _ => none))))))]) (runIN (host := RX5) C hE hAO hA hH [25] rfl rfl (kX2_init l g q5 _) hE.2.2.2.1 tw_3_10 tw_2_3 tw_3_11 rfl (by decide +kernel) rfl rfl ⟨Nat.le_of_ble_eq_true rfl, Nat.le_of_ble_eq_true rfl⟩ hl.1 (rest := [.ref q5, .int 0, .ref qa]) rfl (Nat.le_of_ble_eq_true rfl) dX5_init_77 ⟨Nat.le_of_ble_eq_true rfl, Nat.le_of_ble_eq_true rfl⟩) hA hH [25] [0, 1, 2, 3, 4, 5, 6, 7, 8, 9, 10, 11, 12, 13, 14, 15, 16, 17, 18, 19, 20, 21, 22, 23, 24] rfl rfl (by decide) (by decide) (fun a5 ea H locs hN => ?_)
  clear hH
  subst ea
  have hH : Hp g A s H locs ([(h0, .inr (3, [.ref (a1 0), .ref (a2 0), .ref (a3 0), .int 0, .ref (a4 0), .ref qa, .null]))] ++ wL g a1 L0 ++ wL g a2 L0 ++ wL g a3 L0 ++ wT g a4 T0 ++ [(qa, .inl (gS g, 4, .inr (.inr (.inr (.inr (fun _ => none))))))] ++ wS g a5 Y1 Z1) := hN
  clear hN
  refine xastq C hE hH 24 25 rfl rfl (by decide) dX5_init_80 (fun H locs hH => ?_)
  have hH : Hp g A s H locs ([(h0, .inr (3, [.ref (a1 0), .ref (a2 0), .ref (a3 0), .int 0, .ref (a4 0), .ref qa, .null]))] ++ wL g a1 L0 ++ wL g a2 L0 ++ wL g a3 L0 ++ wT g a4 T0 ++ [(qa, .inl (gS g, 4, .inr (.inr (.inr (.inr (va_up (fun _ => none) 0 (some (a5 0))))))))] ++ wS g a5 Y1 Z1) := hH
  refine lv_iinc (v := 1) (lv' := [(1, .int 1), (0, .ref h0)]) hx hb dX5_init_81 hl (k := 0) rfl (by decide) (by decide) rfl (fun ls hl => ?_)
  refine lv_goto (tgt := 63) hx hb dX5_init_84 (by decide) ?_
  refine lv_iload_n hx hb dX5_init_63 rfl (lv_at hl 0 rfl) ?_
  refine lv_iconst (v := 4) hx hb dX5_init_64 (by decide) ?_
  refine lv_icmp_ge (tgt := 87) hx hb dX5_init_65 (by decide) (fun c9 => absurd c9 (by decide)) (fun _ => ?_)
  refine lv_aload_n hx hb dX5_init_68 rfl (lv_at hl 1 rfl) ?_
  refine gf_RX5_35 C hE hH 0 rfl rfl dX5_init_69 ?_
  refine lv_iload_n hx hb dX5_init_72 rfl (lv_at hl 0 rfl) ?_
  refine xnew C hE hA hH 1 inlX2 tyX2 tyX2_ok tw_2_0 tw_2_2 tw_2_3 rfl [.null, .int 0, .int 0] (fun j hj => by rcases (show j = 0 ∨ j = 1 ∨ j = 2 by omega) with rfl | rfl | rfl <;> rfl) (Nat.le_of_ble_eq_true rfl) (Nat.le_of_ble_eq_true rfl) dX5_init_73 (fun q6 H hH => ?_)
  have hH : Hp g A s H _ ([(h0, .inr (3, [.ref (a1 0), .ref (a2 0), .ref (a3 0), .int 0, .ref (a4 0), .ref qa, .null]))] ++ wL g a1 L0 ++ wL g a2 L0 ++ wL g a3 L0 ++ wT g a4 T0 ++ [(qa, .inl (gS g, 4, .inr (.inr (.inr (.inr (va_up (fun _ => none) 0 (some (a5 0))))))))] ++ wS g a5 Y1 Z1 ++ [(q6, .inr (1, [.null, .int 0, .int 0]))]) := hH
  refine lv_dup hx hb dX5_init_76 rfl ?_
  refine aftN (wr := [(h0, .inr (3, [.ref (a1 0), .ref (a2 0), .ref (a3 0), .int 0, .ref (a4 0), .ref qa, .null]))] ++ wL g a1 L0 ++ wL g a2 L0 ++ wL g a3 L0 ++ wT g a4 T0 ++ [(qa, .inl (gS g, 4, .inr (.inr (.inr (.inr (va_up (fun _ => none) 0 (some (a5 0))))))))] ++ wS g a5 Y1 Z1) (runIN (host := RX5) C hE hAO hA hH [27] rfl rfl (kX2_init l g q6 _) hE.2.2.2.1 tw_3_10 tw_2_3 tw_3_11 rfl (by decide +kernel) rfl rfl ⟨Nat.le_of_ble_eq_true rfl, Nat.le_of_ble_eq_true rfl⟩ hl.1 (rest := [.ref q6, .int 1, .ref qa]) rfl (Nat.le_of_ble_eq_true rfl) dX5_init_77 ⟨Nat.le_of_ble_eq_true rfl, Nat.le_of_ble_eq_true rfl⟩) hA hH [27] [0, 1, 2, 3, 4, 5, 6, 7, 8, 9, 10, 11, 12, 13, 14, 15, 16, 17, 18, 19, 20, 21, 22, 23, 24, 25, 26] rfl rfl (by decide) (by decide) (fun a6 ea H locs hN => ?_)
  clear hH
  subst ea
  have hH : Hp g A s H locs ([(h0, .inr (3, [.ref (a1 0), .ref (a2 0), .ref (a3 0), .int 0, .ref (a4 0), .ref qa, .null]))] ++ wL g a1 L0 ++ wL g a2 L0 ++ wL g a3 L0 ++ wT g a4 T0 ++ [(qa, .inl (gS g, 4, .inr (.inr (.inr (.inr (va_up (fun _ => none) 0 (some (a5 0))))))))] ++ wS g a5 Y1 Z1 ++ wS g a6 Y1 Z1) := hN
  clear hN
  refine xastq C hE hH 24 27 rfl rfl (by decide) dX5_init_80 (fun H locs hH => ?_)
  have hH : Hp g A s H locs ([(h0, .inr (3, [.ref (a1 0), .ref (a2 0), .ref (a3 0), .int 0, .ref (a4 0), .ref qa, .null]))] ++ wL g a1 L0 ++ wL g a2 L0 ++ wL g a3 L0 ++ wT g a4 T0 ++ [(qa, .inl (gS g, 4, .inr (.inr (.inr (.inr (va_up (va_up (fun _ => none) 0 (some (a5 0))) 1 (some (a6 0))))))))] ++ wS g a5 Y1 Z1 ++ wS g a6 Y1 Z1) := hH
  refine lv_iinc (v := 2) (lv' := [(1, .int 2), (0, .ref h0)]) hx hb dX5_init_81 hl (k := 0) rfl (by decide) (by decide) rfl (fun ls hl => ?_)
  refine lv_goto (tgt := 63) hx hb dX5_init_84 (by decide) ?_
  refine lv_iload_n hx hb dX5_init_63 rfl (lv_at hl 0 rfl) ?_
  refine lv_iconst (v := 4) hx hb dX5_init_64 (by decide) ?_
  refine lv_icmp_ge (tgt := 87) hx hb dX5_init_65 (by decide) (fun c9 => absurd c9 (by decide)) (fun _ => ?_)
  refine lv_aload_n hx hb dX5_init_68 rfl (lv_at hl 1 rfl) ?_
  refine gf_RX5_35 C hE hH 0 rfl rfl dX5_init_69 ?_
  refine lv_iload_n hx hb dX5_init_72 rfl (lv_at hl 0 rfl) ?_
  refine xnew C hE hA hH 1 inlX2 tyX2 tyX2_ok tw_2_0 tw_2_2 tw_2_3 rfl [.null, .int 0, .int 0] (fun j hj => by rcases (show j = 0 ∨ j = 1 ∨ j = 2 by omega) with rfl | rfl | rfl <;> rfl) (Nat.le_of_ble_eq_true rfl) (Nat.le_of_ble_eq_true rfl) dX5_init_73 (fun q7 H hH => ?_)
  have hH : Hp g A s H _ ([(h0, .inr (3, [.ref (a1 0), .ref (a2 0), .ref (a3 0), .int 0, .ref (a4 0), .ref qa, .null]))] ++ wL g a1 L0 ++ wL g a2 L0 ++ wL g a3 L0 ++ wT g a4 T0 ++ [(qa, .inl (gS g, 4, .inr (.inr (.inr (.inr (va_up (va_up (fun _ => none) 0 (some (a5 0))) 1 (some (a6 0))))))))] ++ wS g a5 Y1 Z1 ++ wS g a6 Y1 Z1 ++ [(q7, .inr (1, [.null, .int 0, .int 0]))]) := hH
  refine lv_dup hx hb dX5_init_76 rfl ?_
  refine aftN (wr := [(h0, .inr (3, [.ref (a1 0), .ref (a2 0), .ref (a3 0), .int 0, .ref (a4 0), .ref qa, .null]))] ++ wL g a1 L0 ++ wL g a2 L0 ++ wL g a3 L0 ++ wT g a4 T0 ++ [(qa, .inl (gS g, 4, .inr (.inr (.inr (.inr (va_up (va_up (fun _ => none) 0 (some (a5 0))) 1 (some (a6 0))))))))] ++ wS g a5 Y1 Z1 ++ wS g a6 Y1 Z1) (runIN (host := RX5) C hE hAO hA hH [29] rfl rfl (kX2_init l g q7 _) hE.2.2.2.1 tw_3_10 tw_2_3 tw_3_11 rfl (by decide +kernel) rfl rfl ⟨Nat.le_of_ble_eq_true rfl, Nat.le_of_ble_eq_true rfl⟩ hl.1 (rest := [.ref q7, .int 2, .ref qa]) rfl (Nat.le_of_ble_eq_true rfl) dX5_init_77 ⟨Nat.le_of_ble_eq_true rfl, Nat.le_of_ble_eq_true rfl⟩) hA hH [29] [0, 1, 2, 3, 4, 5, 6, 7, 8, 9, 10, 11, 12, 13, 14, 15, 16, 17, 18, 19, 20, 21, 22, 23, 24, 25, 26, 27, 28] rfl rfl (by decide) (by decide) (fun a7 ea H locs hN => ?_)
  clear hH
  subst ea
  have hH : Hp g A s H locs ([(h0, .inr (3, [.ref (a1 0), .ref (a2 0), .ref (a3 0), .int 0, .ref (a4 0), .ref qa, .null]))] ++ wL g a1 L0 ++ wL g a2 L0 ++ wL g a3 L0 ++ wT g a4 T0 ++ [(qa, .inl (gS g, 4, .inr (.inr (.inr (.inr (va_up (va_up (fun _ => none) 0 (some (a5 0))) 1 (some (a6 0))))))))] ++ wS g a5 Y1 Z1 ++ wS g a6 Y1 Z1 ++ wS g a7 Y1 Z1) := hN
  clear hN
  refine xastq C hE hH 24 29 rfl rfl (by decide) dX5_init_80 (fun H locs hH => ?_)
  have hH : Hp g A s H locs ([(h0, .inr (3, [.ref (a1 0), .ref (a2 0), .ref (a3 0), .int 0, .ref (a4 0), .ref qa, .null]))] ++ wL g a1 L0 ++ wL g a2 L0 ++ wL g a3 L0 ++ wT g a4 T0 ++ [(qa, .inl (gS g, 4, .inr (.inr (.inr (.inr (va_up (va_up (va_up (fun _ => none) 0 (some (a5 0))) 1 (some (a6 0))) 2 (some (a7 0))))))))] ++ wS g a5 Y1 Z1 ++ wS g a6 Y1 Z1 ++ wS g a7 Y1 Z1) := hH
  refine lv_iinc (v := 3) (lv' := [(1, .int 3), (0, .ref h0)]) hx hb dX5_init_81 hl (k := 0) rfl (by decide) (by decide) rfl (fun ls hl => ?_)
  refine lv_goto (tgt := 63) hx hb dX5_init_84 (by decide) ?_
  refine lv_iload_n hx hb dX5_init_63 rfl (lv_at hl 0 rfl) ?_
  refine lv_iconst (v := 4) hx hb dX5_init_64 (by decide) ?_
  refine lv_icmp_ge (tgt := 87) hx hb dX5_init_65 (by decide) (fun c9 => absurd c9 (by decide)) (fun _ => ?_)
  refine lv_aload_n hx hb dX5_init_68 rfl (lv_at hl 1 rfl) ?_
  refine gf_RX5_35 C hE hH 0 rfl rfl dX5_init_69 ?_
  refine lv_iload_n hx hb dX5_init_72 rfl (lv_at hl 0 rfl) ?_
  refine xnew C hE hA hH 1 inlX2 tyX2 tyX2_ok tw_2_0 tw_2_2 tw_2_3 rfl [.null, .int 0, .int 0] (fun j hj => by rcases (show j = 0 ∨ j = 1 ∨ j = 2 by omega) with rfl | rfl | rfl <;> rfl) (Nat.le_of_ble_eq_true rfl) (Nat.le_of_ble_eq_true rfl) dX5_init_73 (fun q8 H hH => ?_)
  have hH : Hp g A s H _ ([(h0, .inr (3, [.ref (a1 0), .ref (a2 0), .ref (a3 0), .int 0, .ref (a4 0), .ref qa, .null]))] ++ wL g a1 L0 ++ wL g a2 L0 ++ wL g a3 L0 ++ wT g a4 T0 ++ [(qa, .inl (gS g, 4, .inr (.inr (.inr (.inr (va_up (va_up (va_up (fun _ => none) 0 (some (a5 0))) 1 (some (a6 0))) 2 (some (a7 0))))))))] ++ wS g a5 Y1 Z1 ++ wS g a6 Y1 Z1 ++ wS g a7 Y1 Z1 ++ [(q8, .inr (1, [.null, .int 0, .int 0]))]) := hH
  refine lv_dup hx hb dX5_init_76 rfl ?_
  refine aftN (wr := [(h0, .inr (3, [.ref (a1 0), .ref (a2 0), .ref (a3 0), .int 0, .ref (a4 0), .ref qa, .null]))] ++ wL g a1 L0 ++ wL g a2 L0 ++ wL g a3 L0 ++ wT g a4 T0 ++ [(qa, .inl (gS g, 4, .inr (.inr (.inr (.inr (va_up (va_up (va_up (fun _ => none) 0 (some (a5 0))) 1 (some (a6 0))) 2 (some (a7 0))))))))] ++ wS g a5 Y1 Z1 ++ wS g a6 Y1 Z1 ++ wS g a7 Y1 Z1) (runIN (host := RX5) C hE hAO hA hH [31] rfl rfl (kX2_init l g q8 _) hE.2.2.2.1 tw_3_10 tw_2_3 tw_3_11 rfl (by decide +kernel) rfl rfl ⟨Nat.le_of_ble_eq_true rfl, Nat.le_of_ble_eq_true rfl⟩ hl.1 (rest := [.ref q8, .int 3, .ref qa]) rfl (Nat.le_of_ble_eq_true rfl) dX5_init_77 ⟨Nat.le_of_ble_eq_true rfl, Nat.le_of_ble_eq_true rfl⟩) hA hH [31] [0, 1, 2, 3, 4, 5, 6, 7, 8, 9, 10, 11, 12, 13, 14, 15, 16, 17, 18, 19, 20, 21, 22, 23, 24, 25, 26, 27, 28, 29, 30] rfl rfl (by decide) (by decide) (fun a8 ea H locs hN => ?_)
  clear hH
  subst ea
  have hH : Hp g A s H locs ([(h0, .inr (3, [.ref (a1 0), .ref (a2 0), .ref (a3 0), .int 0, .ref (a4 0), .ref qa, .null]))] ++ wL g a1 L0 ++ wL g a2 L0 ++ wL g a3 L0 ++ wT g a4 T0 ++ [(qa, .inl (gS g, 4, .inr (.inr (.inr (.inr (va_up (va_up (va_up (fun _ => none) 0 (some (a5 0))) 1 (some (a6 0))) 2 (some (a7 0))))))))] ++ wS g a5 Y1 Z1 ++ wS g a6 Y1 Z1 ++ wS g a7 Y1 Z1 ++ wS g a8 Y1 Z1) := hN
  clear hN
  refine xastq C hE hH 24 31 rfl rfl (by decide) dX5_init_80 (fun H locs hH => ?_)
  have hH : Hp g A s H locs ([(h0, .inr (3, [.ref (a1 0), .ref (a2 0), .ref (a3 0), .int 0, .ref (a4 0), .ref qa, .null]))] ++ wL g a1 L0 ++ wL g a2 L0 ++ wL g a3 L0 ++ wT g a4 T0 ++ [(qa, .inl (gS g, 4, .inr (.inr (.inr (.inr (va_up (va_up (va_up (va_up (fun _ => none) 0 (some (a5 0))) 1 (some (a6 0))) 2 (some (a7 0))) 3 (some (a8 0))))))))] ++ wS g a5 Y1 Z1 ++ wS g a6 Y1 Z1 ++ wS g a7 Y1 Z1 ++ wS g a8 Y1 Z1) := hH
  refine lv_iinc (v := 4) (lv' := [(1, .int 4), (0, .ref h0)]) hx hb dX5_init_81 hl (k := 0) rfl (by decide) (by decide) rfl (fun ls hl => ?_)
  refine lv_goto (tgt := 63) hx hb dX5_init_84 (by decide) ?_
  refine lv_iload_n hx hb dX5_init_63 rfl (lv_at hl 0 rfl) ?_
  refine lv_iconst (v := 4) hx hb dX5_init_64 (by decide) ?_
  refine lv_icmp_ge (tgt := 87) hx hb dX5_init_65 (by decide) (fun _ => ?_) (fun c9 => absurd (by decide) c9)
  refine lv_aload_n hx hb dX5_init_87 rfl (lv_at hl 1 rfl) ?_
  refine lv_bipush (v := 7) hx hb dX5_init_88 (by decide) ?_
  refine xnewI C hE hA hH 7 (by decide) rfl (Nat.le_of_ble_eq_true rfl) (Nat.le_of_ble_eq_true rfl) (Nat.le_of_ble_eq_true rfl) tw_2_4 dX5_init_90 (fun qf H hH => ?_)
  have hH : Hp g A s H _ ([(h0, .inr (3, [.ref (a1 0), .ref (a2 0), .ref (a3 0), .int 0, .ref (a4 0), .ref qa, .null]))] ++ wL g a1 L0 ++ wL g a2 L0 ++ wL g a3 L0 ++ wT g a4 T0 ++ [(qa, .inl (gS g, 4, .inr (.inr (.inr (.inr (va_up (va_up (va_up (va_up (fun _ => none) 0 (some (a5 0))) 1 (some (a6 0))) 2 (some (a7 0))) 3 (some (a8 0))))))))] ++ wS g a5 Y1 Z1 ++ wS g a6 Y1 Z1 ++ wS g a7 Y1 Z1 ++ wS g a8 Y1 Z1 ++ [(qf, .inl (gI g, 7, .inl (fun _ => 0)))]) := hH
  refine xputF C hin hE hH 0 rfl rfl inlX5 tyX5 tyX5_ok nmX5 6 (by decide) tw_2_5 rfl rfl rfl rfl rfl rfl (Nat.le_of_ble_eq_true rfl) dX5_init_92 (fun H locs hH => ?_)
  have hH : Hp g A s H locs ([(h0, .inr (3, [.ref (a1 0), .ref (a2 0), .ref (a3 0), .int 0, .ref (a4 0), .ref qa, .ref qf]))] ++ wL g a1 L0 ++ wL g a2 L0 ++ wL g a3 L0 ++ wT g a4 T0 ++ [(qa, .inl (gS g, 4, .inr (.inr (.inr (.inr (va_up (va_up (va_up (va_up (fun _ => none) 0 (some (a5 0))) 1 (some (a6 0))) 2 (some (a7 0))) 3 (some (a8 0))))))))] ++ wS g a5 Y1 Z1 ++ wS g a6 Y1 Z1 ++ wS g a7 Y1 Z1 ++ wS g a8 Y1 Z1 ++ [(qf, .inl (gI g, 7, .inl (fun _ => 0)))]) := hH
  refine W.widen (k := 33) (n := 558) (Nat.le_of_ble_eq_true rfl) (Nat.le_of_ble_eq_true rfl) ?_
  rw [va4 (a5 0) (a6 0) (a7 0) (a8 0) (fun k => ([h0, a1 0, a1 1, a1 2, a1 3, a1 4, a1 5, a1 6, a2 0, a2 1, a2 2, a2 3, a2 4, a2 5, a2 6, a3 0, a3 1, a3 2, a3 3, a3 4, a3 5, a3 6, a4 0, a4 1, qa, a5 0, a5 1, a6 0, a6 1, a7 0, a7 1, a8 0, a8 1, qf] : List Nat).getD k 0) rfl rfl rfl rfl] at hH
  exact retN (wf := fun ad => wX g ad L0 L0 L0 0 T0 Y2 Z2 Z1) C (fun k => ([h0, a1 0, a1 1, a1 2, a1 3, a1 4, a1 5, a1 6, a2 0, a2 1, a2 2, a2 3, a2 4, a2 5, a2 6, a3 0, a3 1, a3 2, a3 3, a3 4, a3 5, a3 6, a4 0, a4 1, qa, a5 0, a5 1, a6 0, a6 1, a7 0, a7 1, a8 0, a8 1, qf] : List Nat).getD k 0) rfl hH dX5_init_95
