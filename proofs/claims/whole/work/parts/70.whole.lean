set_option maxHeartbeats 4000000 in
set_option maxRecDepth 100000 in
theorem whole_start {p : Program} {e : Env} {s : State} {m : MethodId} {below : List Frame} {meth : Method} {c : Code} (l : Launch) (hflags : l.flags = flags0) {b L : Nat} {xs : Nat → Int32} (hL : L ≤ 3072) (C0 : lw_At p s m meth c b L xs) : W p l e room_1 s m #[Value.ref b] below meth c s.heap [] 0 0 (lw_Z below #[Value.ref b] s) (entryFrame m ([Value.ref b] : List Value).toArray 4) := by
  obtain ⟨hx, hb, hr, hml, hown, hts, hX, hbl, hlocks, hgv⟩ := id C0
  have hA : ∀ q : Nat, s.heap.size ≤ q → aH s q := fun _ h => h
  obtain ⟨g, hE⟩ := ev_start hts hgv
  have hAO : va_AO RX2 s := va_AO.of (hts _ ts_ao)
  have C : Cx p s m #[Value.ref b] meth c cL_law 4 ret RL := ⟨hx, hb, hml, hown, fun w h => hts w (TT_in w h), hr, hlocks⟩
  have hH : Hp g (aH s) s s.heap [] [] := ⟨fun k q h => by simp at h, ⟨fun i j p q h => by simp at h, fun k q h => by simp at h⟩, va_S.rf⟩
  have hl := lv_entry ([.ref b]) (n := 4) (Nat.le_of_ble_eq_true rfl)
  rw [lg_entry_eq]
  generalize (lg_sl ([.ref b]) ++ List.replicate (4 - (lg_sl ([.ref b])).length) Slot.unset).toArray = ls at hl ⊢
  have hl : lv_has ls 4 [(0, .ref b)] := hl
  refine xnew C hE hA hH 3 inlX5 tyX5 tyX5_ok tw_1_0 tw_1_1 tw_1_2 rfl [.null, .null, .null, .int 0, .null, .null, .null] (fun j hj => by rcases (show j = 0 ∨ j = 1 ∨ j = 2 ∨ j = 3 ∨ j = 4 ∨ j = 5 ∨ j = 6 by omega) with rfl | rfl | rfl | rfl | rfl | rfl | rfl <;> rfl) (Nat.le_of_ble_eq_true rfl) (Nat.le_of_ble_eq_true rfl) dL_law_0 (fun q1 H hH => ?_)
  have hH : Hp g (aH s) s H _ [(q1, .inr (3, [.null, .null, .null, .int 0, .null, .null, .null]))] := hH
  refine lv_dup hx hb dL_law_3 rfl ?_
  refine aftN (wr := []) (runI C hE hAO hA hH [0] rfl rfl (kX5_init l g q1 _) tw_1_7 tw_1_8 tw_1_2 tw_1_9 rfl (by decide +kernel) rfl rfl ⟨Nat.le_of_ble_eq_true rfl, Nat.le_of_ble_eq_true rfl⟩ hl.1 (rest := [.ref q1]) rfl (Nat.le_of_ble_eq_true rfl) dL_law_4 ⟨Nat.le_of_ble_eq_true rfl, Nat.le_of_ble_eq_true rfl⟩) hA hH [0] [] rfl rfl (by decide) (by decide) (fun ax ea H locs hN => ?_)
  clear hH
  subst ea
  have hH : Hp g (aH s) s H locs (wX g ax L0 L0 L0 0 T0 Y2 Z2 Z1) := hN
  clear hN
  refine lv_astore_n (lv' := [(1, .ref (ax 0)), (0, .ref b)]) hx hb dL_law_7 rfl hl (by decide) rfl (fun ls hl => ?_)
  refine xnew C hE hA hH 4 inlX6 tyX6 tyX6_ok tw_1_3 tw_1_4 tw_1_5 rfl [.null, .null, .int 0, .int 0, .null, .null, .null, .int 0, .int 0, .int 0, .int 0, .long 0, .int 0, .int 0, .null, .null, .null, .null, .null, .null, .int 0] (fun j hj => by rcases (show j = 0 ∨ j = 1 ∨ j = 2 ∨ j = 3 ∨ j = 4 ∨ j = 5 ∨ j = 6 ∨ j = 7 ∨ j = 8 ∨ j = 9 ∨ j = 10 ∨ j = 11 ∨ j = 12 ∨ j = 13 ∨ j = 14 ∨ j = 15 ∨ j = 16 ∨ j = 17 ∨ j = 18 ∨ j = 19 ∨ j = 20 by omega) with rfl | rfl | rfl | rfl | rfl | rfl | rfl | rfl | rfl | rfl | rfl | rfl | rfl | rfl | rfl | rfl | rfl | rfl | rfl | rfl | rfl <;> rfl) (Nat.le_of_ble_eq_true rfl) (Nat.le_of_ble_eq_true rfl) dL_law_8 (fun q2 H hH => ?_)
  have hH : Hp g (aH s) s H _ (wX g ax L0 L0 L0 0 T0 Y2 Z2 Z1 ++ [(q2, .inr (4, [.null, .null, .int 0, .int 0, .null, .null, .null, .int 0, .int 0, .int 0, .int 0, .long 0, .int 0, .int 0, .null, .null, .null, .null, .null, .null, .int 0]))]) := hH
  refine lv_dup hx hb dL_law_11 rfl ?_
  refine aftN (wr := wX g ax L0 L0 L0 0 T0 Y2 Z2 Z1) (runI C hE hAO hA hH [34] rfl rfl (kX6_init l g q2 _) tw_3_17 tw_3_18 tw_1_5 tw_3_19 rfl (by decide +kernel) rfl rfl ⟨Nat.le_of_ble_eq_true rfl, Nat.le_of_ble_eq_true rfl⟩ hl.1 (rest := [.ref q2]) rfl (Nat.le_of_ble_eq_true rfl) dL_law_12 ⟨Nat.le_of_ble_eq_true rfl, Nat.le_of_ble_eq_true rfl⟩) hA hH [34] [0, 1, 2, 3, 4, 5, 6, 7, 8, 9, 10, 11, 12, 13, 14, 15, 16, 17, 18, 19, 20, 21, 22, 23, 24, 25, 26, 27, 28, 29, 30, 31, 32, 33] rfl rfl (by decide) (by decide) (fun am ea H locs hN => ?_)
  clear hH
  subst ea
  have hH : Hp g (aH s) s H locs (wXM g ax am L0 L0 L0 0 T0 Y2 Z2 Z1 G0 Y2) := hN
  clear hN
  refine W.widen (k := 100) (n := 5000) (Nat.le_of_ble_eq_true rfl) (Nat.le_of_ble_eq_true rfl) ?_
  refine lv_astore_n (lv' := [(2, .ref (am 0)), (1, .ref (ax 0)), (0, .ref b)]) hx hb dL_law_15 rfl hl (by decide) rfl (fun ls hl => ?_)
  refine lv_iconst (v := 0) hx hb dL_law_16 (by decide) ?_
  refine lv_istore_n (lv' := [(3, .int 0), (2, .ref (am 0)), (1, .ref (ax 0)), (0, .ref b)]) hx hb dL_law_17 rfl hl (by decide) rfl (fun ls hl => ?_)
  exact law_lp ⟨C, hE, hX, hbl, hL⟩ (L + 1) 0 (by omega) (by omega) _ _ _ _ _ _ _ _ _ _ rel0 _ _ ls hH (lv_sub hl [3, 2, 1, 0] rfl)
