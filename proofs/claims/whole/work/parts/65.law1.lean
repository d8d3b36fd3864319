section LB
variable {p : Program} {l : Launch} {e : Env} {s : State} {m : MethodId} {below : List Frame} {meth : Method} {c : Code} {b L : Nat} {xs : Nat → Int32} {g : Gl} {i : Nat} {ax am : Nat → Nat}
set_option maxHeartbeats 4000000 in
set_option maxRecDepth 100000 in
theorem lc_sea (hc : Lc p s m meth c b L xs g) (hi : i + 6 ≤ L) (kk : Kk p l e s m below meth c b g ax am i 1312) : Kk p l e s m below meth c b g ax am i 204 := by
  intro R1 R2 R3 K T SN SZ F G J h H locs ls hH hl
  obtain ⟨C, hE, hX, hbl, hL⟩ := id hc
  obtain ⟨hx, hb, hml, hown, hT, hr, hlk⟩ := id C
  have hA : ∀ q : Nat, s.heap.size ≤ q → aH s q := fun _ q => q
  obtain ⟨r, R1', F', G', q1, q2, h'⟩ := e_sea h (xs (i + 1)) (xs (i + 2))
  refine lv_aload_n hx hb dL_law_204 rfl (lv_at hl 1 rfl) ?_
  refine lw_arg hc hH hl 1 (by omega) rfl dL_law_205 dL_law_206 dL_law_207 dL_law_208 dL_law_209 ?_
  refine lw_arg hc hH hl 2 (by omega) rfl dL_law_210 dL_law_211 dL_law_212 dL_law_213 dL_law_214 ?_
  refine aftI (runV C hE hA hH [0, 1, 2, 3, 4, 5, 6, 7, 8, 9, 10, 11, 12, 13, 14, 15, 16, 17, 18, 19, 20, 21, 22, 23, 24, 25, 26, 27, 28, 29, 30, 31, 32, 33] nd_34 (sC_XM_X g ax am R1 R2 R3 K T SN SZ F G J) (kX5_sea l g ax _ R1 R2 R3 K T SN SZ F (xs (i + 1)) (xs (i + 2)) r R1' F' q1) tw_4_8 tw_4_9 tw_4_10 tw_1_2 tw_4_11 hdX5_sea 0 rfl rfl rfl rfl ⟨Nat.le_of_ble_eq_true rfl, Nat.le_of_ble_eq_true rfl⟩ rfl hl.1 (rest := []) rfl (Nat.le_of_ble_eq_true rfl) dL_law_215 ⟨Nat.le_of_ble_eq_true rfl, Nat.le_of_ble_eq_true rfl⟩) hA hH [0, 1, 2, 3, 4, 5, 6, 7, 8, 9, 10, 11, 12, 13, 14, 15, 16, 17, 18, 19, 20, 21, 22, 23, 24, 25, 26, 27, 28, 29, 30, 31, 32, 33] [34, 35, 36, 37, 38, 39, 40, 41, 42, 43, 44, 45] (sC_XM_X g ax am R1 R2 R3 K T SN SZ F G J) (sR_XM_X g ax am R1 R2 R3 K T SN SZ F G J) nd_12 dj_XM_X [12, 13, 14, 15, 16, 17, 18, 19, 20, 21, 22, 23, 24, 25, 26, 27, 28, 29, 30, 31, 32, 33, 34, 35, 36, 37, 38, 39, 40, 41, 42, 43, 44, 45, 0, 1, 2, 3, 4, 5, 6, 7, 8, 9, 10, 11] nd_46p (sP_XM_X g ax am R1 R2 R3 K T SN SZ F G J R1' R2 R3 K T SN SZ F') (fun H locs hH => ?_)
  refine lv_aload_n hx hb dL_law_218 rfl (lv_at hl 2 rfl) ?_
  refine lw_arg hc hH hl 1 (by omega) rfl dL_law_219 dL_law_220 dL_law_221 dL_law_222 dL_law_223 ?_
  refine lw_arg hc hH hl 2 (by omega) rfl dL_law_224 dL_law_225 dL_law_226 dL_law_227 dL_law_228 ?_
  refine aftI (runV C hE hA hH [34, 35, 36, 37, 38, 39, 40, 41, 42, 43, 44, 45] nd_12 (sC_XM_M g ax am R1' R2 R3 K T SN SZ F' G J) (kX6_sea l g am _ G J (xs (i + 1)) (xs (i + 2)) r G' q2) tw_4_21 tw_4_22 tw_4_23 tw_1_5 tw_5_0 hdX6_sea 34 rfl rfl rfl rfl ⟨Nat.le_of_ble_eq_true rfl, Nat.le_of_ble_eq_true rfl⟩ rfl hl.1 (rest := [.int r]) rfl (Nat.le_of_ble_eq_true rfl) dL_law_229 ⟨Nat.le_of_ble_eq_true rfl, Nat.le_of_ble_eq_true rfl⟩) hA hH [34, 35, 36, 37, 38, 39, 40, 41, 42, 43, 44, 45] [0, 1, 2, 3, 4, 5, 6, 7, 8, 9, 10, 11, 12, 13, 14, 15, 16, 17, 18, 19, 20, 21, 22, 23, 24, 25, 26, 27, 28, 29, 30, 31, 32, 33] (sC_XM_M g ax am R1' R2 R3 K T SN SZ F' G J) (sR_XM_M g ax am R1' R2 R3 K T SN SZ F' G J) nd_34 dj_XM_M [0, 1, 2, 3, 4, 5, 6, 7, 8, 9, 10, 11, 12, 13, 14, 15, 16, 17, 18, 19, 20, 21, 22, 23, 24, 25, 26, 27, 28, 29, 30, 31, 32, 33, 34, 35, 36, 37, 38, 39, 40, 41, 42, 43, 44, 45] nd_46 (sP_XM_M g ax am R1' R2 R3 K T SN SZ F' G J G' J) (fun H locs hH => ?_)
  refine lv_icmp_eq (tgt := 1312) hx hb dL_law_232 (by decide) (fun _ => ?_) (fun c9 => absurd rfl c9)
  exact kk _ _ _ _ _ _ _ _ _ _ h' _ _ ls hH hl
set_option maxHeartbeats 4000000 in
set_option maxRecDepth 100000 in
theorem lc_day (hc : Lc p s m meth c b L xs g) (hi : i + 6 ≤ L) (kk : Kk p l e s m below meth c b g ax am i 1312) : Kk p l e s m below meth c b g ax am i 237 := by
  intro R1 R2 R3 K T SN SZ F G J h H locs ls hH hl
  obtain ⟨C, hE, hX, hbl, hL⟩ := id hc
  obtain ⟨hx, hb, hml, hown, hT, hr, hlk⟩ := id C
  have hA : ∀ q : Nat, s.heap.size ≤ q → aH s q := fun _ q => q
  obtain ⟨r, F', G', q1, q2, h'⟩ := e_day h (xs (i + 1)) (xs (i + 2))
  refine lv_aload_n hx hb dL_law_237 rfl (lv_at hl 1 rfl) ?_
  refine lw_arg hc hH hl 1 (by omega) rfl dL_law_238 dL_law_239 dL_law_240 dL_law_241 dL_law_242 ?_
  refine lw_arg hc hH hl 2 (by omega) rfl dL_law_243 dL_law_244 dL_law_245 dL_law_246 dL_law_247 ?_
  refine aftI (runV C hE hA hH [0, 1, 2, 3, 4, 5, 6, 7, 8, 9, 10, 11, 12, 13, 14, 15, 16, 17, 18, 19, 20, 21, 22, 23, 24, 25, 26, 27, 28, 29, 30, 31, 32, 33] nd_34 (sC_XM_X g ax am R1 R2 R3 K T SN SZ F G J) (kX5_day l g ax _ R1 R2 R3 K T SN SZ F (xs (i + 1)) (xs (i + 2)) r F' q1) tw_5_13 tw_5_14 tw_5_15 tw_1_2 tw_5_16 hdX5_day 0 rfl rfl rfl rfl ⟨Nat.le_of_ble_eq_true rfl, Nat.le_of_ble_eq_true rfl⟩ rfl hl.1 (rest := []) rfl (Nat.le_of_ble_eq_true rfl) dL_law_248 ⟨Nat.le_of_ble_eq_true rfl, Nat.le_of_ble_eq_true rfl⟩) hA hH [0, 1, 2, 3, 4, 5, 6, 7, 8, 9, 10, 11, 12, 13, 14, 15, 16, 17, 18, 19, 20, 21, 22, 23, 24, 25, 26, 27, 28, 29, 30, 31, 32, 33] [34, 35, 36, 37, 38, 39, 40, 41, 42, 43, 44, 45] (sC_XM_X g ax am R1 R2 R3 K T SN SZ F G J) (sR_XM_X g ax am R1 R2 R3 K T SN SZ F G J) nd_12 dj_XM_X [12, 13, 14, 15, 16, 17, 18, 19, 20, 21, 22, 23, 24, 25, 26, 27, 28, 29, 30, 31, 32, 33, 34, 35, 36, 37, 38, 39, 40, 41, 42, 43, 44, 45, 0, 1, 2, 3, 4, 5, 6, 7, 8, 9, 10, 11] nd_46p (sP_XM_X g ax am R1 R2 R3 K T SN SZ F G J R1 R2 R3 K T SN SZ F') (fun H locs hH => ?_)
  refine lv_aload_n hx hb dL_law_251 rfl (lv_at hl 2 rfl) ?_
  refine lw_arg hc hH hl 1 (by omega) rfl dL_law_252 dL_law_253 dL_law_254 dL_law_255 dL_law_256 ?_
  refine lw_arg hc hH hl 2 (by omega) rfl dL_law_257 dL_law_258 dL_law_259 dL_law_260 dL_law_261 ?_
  refine aftI (runV C hE hA hH [34, 35, 36, 37, 38, 39, 40, 41, 42, 43, 44, 45] nd_12 (sC_XM_M g ax am R1 R2 R3 K T SN SZ F' G J) (kX6_day l g am _ G J (xs (i + 1)) (xs (i + 2)) r G' q2) tw_6_10 tw_6_11 tw_6_12 tw_1_5 tw_6_13 hdX6_day 34 rfl rfl rfl rfl ⟨Nat.le_of_ble_eq_true rfl, Nat.le_of_ble_eq_true rfl⟩ rfl hl.1 (rest := [.int r]) rfl (Nat.le_of_ble_eq_true rfl) dL_law_262 ⟨Nat.le_of_ble_eq_true rfl, Nat.le_of_ble_eq_true rfl⟩) hA hH [34, 35, 36, 37, 38, 39, 40, 41, 42, 43, 44, 45] [0, 1, 2, 3, 4, 5, 6, 7, 8, 9, 10, 11, 12, 13, 14, 15, 16, 17, 18, 19, 20, 21, 22, 23, 24, 25, 26, 27, 28, 29, 30, 31, 32, 33] (sC_XM_M g ax am R1 R2 R3 K T SN SZ F' G J) (sR_XM_M g ax am R1 R2 R3 K T SN SZ F' G J) nd_34 dj_XM_M [0, 1, 2, 3, 4, 5, 6, 7, 8, 9, 10, 11, 12, 13, 14, 15, 16, 17, 18, 19, 20, 21, 22, 23, 24, 25, 26, 27, 28, 29, 30, 31, 32, 33, 34, 35, 36, 37, 38, 39, 40, 41, 42, 43, 44, 45] nd_46 (sP_XM_M g ax am R1 R2 R3 K T SN SZ F' G J G' J) (fun H locs hH => ?_)
  refine lv_icmp_eq (tgt := 1312) hx hb dL_law_265 (by decide) (fun _ => ?_) (fun c9 => absurd rfl c9)
  exact kk _ _ _ _ _ _ _ _ _ _ h' _ _ ls hH hl
set_option maxHeartbeats 4000000 in
set_option maxRecDepth 100000 in
theorem lc_light (hc : Lc p s m meth c b L xs g) (hi : i + 6 ≤ L) (kk : Kk p l e s m below meth c b g ax am i 1312) : Kk p l e s m below meth c b g ax am i 270 := by
  intro R1 R2 R3 K T SN SZ F G J h H locs ls hH hl
  obtain ⟨C, hE, hX, hbl, hL⟩ := id hc
  obtain ⟨hx, hb, hml, hown, hT, hr, hlk⟩ := id C
  have hA : ∀ q : Nat, s.heap.size ≤ q → aH s q := fun _ q => q
  obtain ⟨r, R1', F', G', q1, q2, h'⟩ := e_light h (xs (i + 1)) (xs (i + 2))
  refine lv_aload_n hx hb dL_law_270 rfl (lv_at hl 1 rfl) ?_
  refine lw_arg hc hH hl 1 (by omega) rfl dL_law_271 dL_law_272 dL_law_273 dL_law_274 dL_law_275 ?_
  refine lw_arg hc hH hl 2 (by omega) rfl dL_law_276 dL_law_277 dL_law_278 dL_law_279 dL_law_280 ?_
  refine aftI (runV C hE hA hH [0, 1, 2, 3, 4, 5, 6, 7, 8, 9, 10, 11, 12, 13, 14, 15, 16, 17, 18, 19, 20, 21, 22, 23, 24, 25, 26, 27, 28, 29, 30, 31, 32, 33] nd_34 (sC_XM_X g ax am R1 R2 R3 K T SN SZ F G J) (kX5_light l g ax _ R1 R2 R3 K T SN SZ F (xs (i + 1)) (xs (i + 2)) r R1' F' q1) tw_6_18 tw_6_19 tw_6_20 tw_1_2 tw_6_21 hdX5_light 0 rfl rfl rfl rfl ⟨Nat.le_of_ble_eq_true rfl, Nat.le_of_ble_eq_true rfl⟩ rfl hl.1 (rest := []) rfl (Nat.le_of_ble_eq_true rfl) dL_law_281 ⟨Nat.le_of_ble_eq_true rfl, Nat.le_of_ble_eq_true rfl⟩) hA hH [0, 1, 2, 3, 4, 5, 6, 7, 8, 9, 10, 11, 12, 13, 14, 15, 16, 17, 18, 19, 20, 21, 22, 23, 24, 25, 26, 27, 28, 29, 30, 31, 32, 33] [34, 35, 36, 37, 38, 39, 40, 41, 42, 43, 44, 45] (sC_XM_X g ax am R1 R2 R3 K T SN SZ F G J) (sR_XM_X g ax am R1 R2 R3 K T SN SZ F G J) nd_12 dj_XM_X [12, 13, 14, 15, 16, 17, 18, 19, 20, 21, 22, 23, 24, 25, 26, 27, 28, 29, 30, 31, 32, 33, 34, 35, 36, 37, 38, 39, 40, 41, 42, 43, 44, 45, 0, 1, 2, 3, 4, 5, 6, 7, 8, 9, 10, 11] nd_46p (sP_XM_X g ax am R1 R2 R3 K T SN SZ F G J R1' R2 R3 K T SN SZ F') (fun H locs hH => ?_)
  refine lv_aload_n hx hb dL_law_284 rfl (lv_at hl 2 rfl) ?_
  refine lw_arg hc hH hl 1 (by omega) rfl dL_law_285 dL_law_286 dL_law_287 dL_law_288 dL_law_289 ?_
  refine lw_arg hc hH hl 2 (by omega) rfl dL_law_290 dL_law_291 dL_law_292 dL_law_293 dL_law_294 ?_
  refine aftI (runV C hE hA hH [34, 35, 36, 37, 38, 39, 40, 41, 42, 43, 44, 45] nd_12 (sC_XM_M g ax am R1' R2 R3 K T SN SZ F' G J) (kX6_light l g am _ G J (xs (i + 1)) (xs (i + 2)) r G' q2) tw_7_8 tw_7_9 tw_7_10 tw_1_5 tw_7_11 hdX6_light 34 rfl rfl rfl rfl ⟨Nat.le_of_ble_eq_true rfl, Nat.le_of_ble_eq_true rfl⟩ rfl hl.1 (rest := [.int r]) rfl (Nat.le_of_ble_eq_true rfl) dL_law_295 ⟨Nat.le_of_ble_eq_true rfl, Nat.le_of_ble_eq_true rfl⟩) hA hH [34, 35, 36, 37, 38, 39, 40, 41, 42, 43, 44, 45] [0, 1, 2, 3, 4, 5, 6, 7, 8, 9, 10, 11, 12, 13, 14, 15, 16, 17, 18, 19, 20, 21, 22, 23, 24, 25, 26, 27, 28, 29, 30, 31, 32, 33] (sC_XM_M g ax am R1' R2 R3 K T SN SZ F' G J) (sR_XM_M g ax am R1' R2 R3 K T SN SZ F' G J) nd_34 dj_XM_M [0, 1, 2, 3, 4, 5, 6, 7, 8, 9, 10, 11, 12, 13, 14, 15, 16, 17, 18, 19, 20, 21, 22, 23, 24, 25, 26, 27, 28, 29, 30, 31, 32, 33, 34, 35, 36, 37, 38, 39, 40, 41, 42, 43, 44, 45] nd_46 (sP_XM_M g ax am R1' R2 R3 K T SN SZ F' G J G' J) (fun H locs hH => ?_)
  refine lv_icmp_eq (tgt := 1312) hx hb dL_law_298 (by decide) (fun _ => ?_) (fun c9 => absurd rfl c9)
  exact kk _ _ _ _ _ _ _ _ _ _ h' _ _ ls hH hl
set_option maxHeartbeats 4000000 in
set_option maxRecDepth 100000 in
theorem lc_keeper (hc : Lc p s m meth c b L xs g) (hi : i + 6 ≤ L) (kk : Kk p l e s m below meth c b g ax am i 1312) : Kk p l e s m below meth c b g ax am i 303 := by
  intro R1 R2 R3 K T SN SZ F G J h H locs ls hH hl
  obtain ⟨C, hE, hX, hbl, hL⟩ := id hc
  obtain ⟨hx, hb, hml, hown, hT, hr, hlk⟩ := id C
  have hA : ∀ q : Nat, s.heap.size ≤ q → aH s q := fun _ q => q
  obtain ⟨r, R1', F', G', q1, q2, h'⟩ := e_keeper h (xs (i + 1))
  refine lv_aload_n hx hb dL_law_303 rfl (lv_at hl 1 rfl) ?_
  refine lw_arg hc hH hl 1 (by omega) rfl dL_law_304 dL_law_305 dL_law_306 dL_law_307 dL_law_308 ?_
  refine aftI (runV C hE hA hH [0, 1, 2, 3, 4, 5, 6, 7, 8, 9, 10, 11, 12, 13, 14, 15, 16, 17, 18, 19, 20, 21, 22, 23, 24, 25, 26, 27, 28, 29, 30, 31, 32, 33] nd_34 (sC_XM_X g ax am R1 R2 R3 K T SN SZ F G J) (kX5_keeper l g ax _ R1 R2 R3 K T SN SZ F (xs (i + 1)) r R1' F' q1) tw_7_12 tw_7_13 tw_7_14 tw_1_2 tw_7_15 hdX5_keeper 0 rfl rfl rfl rfl ⟨Nat.le_of_ble_eq_true rfl, Nat.le_of_ble_eq_true rfl⟩ rfl hl.1 (rest := []) rfl (Nat.le_of_ble_eq_true rfl) dL_law_309 ⟨Nat.le_of_ble_eq_true rfl, Nat.le_of_ble_eq_true rfl⟩) hA hH [0, 1, 2, 3, 4, 5, 6, 7, 8, 9, 10, 11, 12, 13, 14, 15, 16, 17, 18, 19, 20, 21, 22, 23, 24, 25, 26, 27, 28, 29, 30, 31, 32, 33] [34, 35, 36, 37, 38, 39, 40, 41, 42, 43, 44, 45] (sC_XM_X g ax am R1 R2 R3 K T SN SZ F G J) (sR_XM_X g ax am R1 R2 R3 K T SN SZ F G J) nd_12 dj_XM_X [12, 13, 14, 15, 16, 17, 18, 19, 20, 21, 22, 23, 24, 25, 26, 27, 28, 29, 30, 31, 32, 33, 34, 35, 36, 37, 38, 39, 40, 41, 42, 43, 44, 45, 0, 1, 2, 3, 4, 5, 6, 7, 8, 9, 10, 11] nd_46p (sP_XM_X g ax am R1 R2 R3 K T SN SZ F G J R1' R2 R3 K T SN SZ F') (fun H locs hH => ?_)
  refine lv_aload_n hx hb dL_law_312 rfl (lv_at hl 2 rfl) ?_
  refine lw_arg hc hH hl 1 (by omega) rfl dL_law_313 dL_law_314 dL_law_315 dL_law_316 dL_law_317 ?_
  refine aftI (runV C hE hA hH [34, 35, 36, 37, 38, 39, 40, 41, 42, 43, 44, 45] nd_12 (sC_XM_M g ax am R1' R2 R3 K T SN SZ F' G J) (kX6_keeper l g am _ G J (xs (i + 1)) r G' q2) tw_8_5 tw_8_6 tw_8_7 tw_1_5 tw_8_8 hdX6_keeper 34 rfl rfl rfl rfl ⟨Nat.le_of_ble_eq_true rfl, Nat.le_of_ble_eq_true rfl⟩ rfl hl.1 (rest := [.int r]) rfl (Nat.le_of_ble_eq_true rfl) dL_law_318 ⟨Nat.le_of_ble_eq_true rfl, Nat.le_of_ble_eq_true rfl⟩) hA hH [34, 35, 36, 37, 38, 39, 40, 41, 42, 43, 44, 45] [0, 1, 2, 3, 4, 5, 6, 7, 8, 9, 10, 11, 12, 13, 14, 15, 16, 17, 18, 19, 20, 21, 22, 23, 24, 25, 26, 27, 28, 29, 30, 31, 32, 33] (sC_XM_M g ax am R1' R2 R3 K T SN SZ F' G J) (sR_XM_M g ax am R1' R2 R3 K T SN SZ F' G J) nd_34 dj_XM_M [0, 1, 2, 3, 4, 5, 6, 7, 8, 9, 10, 11, 12, 13, 14, 15, 16, 17, 18, 19, 20, 21, 22, 23, 24, 25, 26, 27, 28, 29, 30, 31, 32, 33, 34, 35, 36, 37, 38, 39, 40, 41, 42, 43, 44, 45] nd_46 (sP_XM_M g ax am R1' R2 R3 K T SN SZ F' G J G' J) (fun H locs hH => ?_)
  refine lv_icmp_eq (tgt := 1312) hx hb dL_law_321 (by decide) (fun _ => ?_) (fun c9 => absurd rfl c9)
  exact kk _ _ _ _ _ _ _ _ _ _ h' _ _ ls hH hl
set_option maxHeartbeats 4000000 in
set_option maxRecDepth 100000 in
theorem lc_of (hc : Lc p s m meth c b L xs g) (hi : i + 6 ≤ L) (kk : Kk p l e s m below meth c b g ax am i 1312) : Kk p l e s m below meth c b g ax am i 326 := by
  intro R1 R2 R3 K T SN SZ F G J h H locs ls hH hl
  obtain ⟨C, hE, hX, hbl, hL⟩ := id hc
  obtain ⟨hx, hb, hml, hown, hT, hr, hlk⟩ := id C
  have hA : ∀ q : Nat, s.heap.size ≤ q → aH s q := fun _ q => q
  obtain ⟨r, F', G', q1, q2, h'⟩ := e_of h (xs (i + 1)) (xs (i + 2))
  refine lv_aload_n hx hb dL_law_326 rfl (lv_at hl 1 rfl) ?_
  refine lw_arg hc hH hl 1 (by omega) rfl dL_law_327 dL_law_328 dL_law_329 dL_law_330 dL_law_331 ?_
  refine lw_arg hc hH hl 2 (by omega) rfl dL_law_332 dL_law_333 dL_law_334 dL_law_335 dL_law_336 ?_
  refine aftI (runV C hE hA hH [0, 1, 2, 3, 4, 5, 6, 7, 8, 9, 10, 11, 12, 13, 14, 15, 16, 17, 18, 19, 20, 21, 22, 23, 24, 25, 26, 27, 28, 29, 30, 31, 32, 33] nd_34 (sC_XM_X g ax am R1 R2 R3 K T SN SZ F G J) (kX5_of l g ax _ R1 R2 R3 K T SN SZ F (xs (i + 1)) (xs (i + 2)) r F' q1) tw_8_21 tw_8_22 tw_8_23 tw_1_2 tw_9_0 hdX5_of 0 rfl rfl rfl rfl ⟨Nat.le_of_ble_eq_true rfl, Nat.le_of_ble_eq_true rfl⟩ rfl hl.1 (rest := []) rfl (Nat.le_of_ble_eq_true rfl) dL_law_337 ⟨Nat.le_of_ble_eq_true rfl, Nat.le_of_ble_eq_true rfl⟩) hA hH [0, 1, 2, 3, 4, 5, 6, 7, 8, 9, 10, 11, 12, 13, 14, 15, 16, 17, 18, 19, 20, 21, 22, 23, 24, 25, 26, 27, 28, 29, 30, 31, 32, 33] [34, 35, 36, 37, 38, 39, 40, 41, 42, 43, 44, 45] (sC_XM_X g ax am R1 R2 R3 K T SN SZ F G J) (sR_XM_X g ax am R1 R2 R3 K T SN SZ F G J) nd_12 dj_XM_X [12, 13, 14, 15, 16, 17, 18, 19, 20, 21, 22, 23, 24, 25, 26, 27, 28, 29, 30, 31, 32, 33, 34, 35, 36, 37, 38, 39, 40, 41, 42, 43, 44, 45, 0, 1, 2, 3, 4, 5, 6, 7, 8, 9, 10, 11] nd_46p (sP_XM_X g ax am R1 R2 R3 K T SN SZ F G J R1 R2 R3 K T SN SZ F') (fun H locs hH => ?_)
  refine lv_aload_n hx hb dL_law_340 rfl (lv_at hl 2 rfl) ?_
  refine lw_arg hc hH hl 1 (by omega) rfl dL_law_341 dL_law_342 dL_law_343 dL_law_344 dL_law_345 ?_
  refine lw_arg hc hH hl 2 (by omega) rfl dL_law_346 dL_law_347 dL_law_348 dL_law_349 dL_law_350 ?_
  refine aftI (runV C hE hA hH [34, 35, 36, 37, 38, 39, 40, 41, 42, 43, 44, 45] nd_12 (sC_XM_M g ax am R1 R2 R3 K T SN SZ F' G J) (kX6_of l g am _ G J (xs (i + 1)) (xs (i + 2)) r G' q2) tw_10_2 tw_10_3 tw_10_4 tw_1_5 tw_10_5 hdX6_of 34 rfl rfl rfl rfl ⟨Nat.le_of_ble_eq_true rfl, Nat.le_of_ble_eq_true rfl⟩ rfl hl.1 (rest := [.int r]) rfl (Nat.le_of_ble_eq_true rfl) dL_law_351 ⟨Nat.le_of_ble_eq_true rfl, Nat.le_of_ble_eq_true rfl⟩) hA hH [34, 35, 36, 37, 38, 39, 40, 41, 42, 43, 44, 45] [0, 1, 2, 3, 4, 5, 6, 7, 8, 9, 10, 11, 12, 13, 14, 15, 16, 17, 18, 19, 20, 21, 22, 23, 24, 25, 26, 27, 28, 29, 30, 31, 32, 33] (sC_XM_M g ax am R1 R2 R3 K T SN SZ F' G J) (sR_XM_M g ax am R1 R2 R3 K T SN SZ F' G J) nd_34 dj_XM_M [0, 1, 2, 3, 4, 5, 6, 7, 8, 9, 10, 11, 12, 13, 14, 15, 16, 17, 18, 19, 20, 21, 22, 23, 24, 25, 26, 27, 28, 29, 30, 31, 32, 33, 34, 35, 36, 37, 38, 39, 40, 41, 42, 43, 44, 45] nd_46 (sP_XM_M g ax am R1 R2 R3 K T SN SZ F' G J G' J) (fun H locs hH => ?_)
  refine lv_icmp_eq (tgt := 1312) hx hb dL_law_354 (by decide) (fun _ => ?_) (fun c9 => absurd rfl c9)
  exact kk _ _ _ _ _ _ _ _ _ _ h' _ _ ls hH hl
set_option maxHeartbeats 4000000 in
set_option maxRecDepth 100000 in
theorem lc_can (hc : Lc p s m meth c b L xs g) (hi : i + 6 ≤ L) (kk : Kk p l e s m below meth c b g ax am i 1312) : Kk p l e s m below meth c b g ax am i 359 := by
  intro R1 R2 R3 K T SN SZ F G J h H locs ls hH hl
  obtain ⟨C, hE, hX, hbl, hL⟩ := id hc
  obtain ⟨hx, hb, hml, hown, hT, hr, hlk⟩ := id C
  have hA : ∀ q : Nat, s.heap.size ≤ q → aH s q := fun _ q => q
  obtain ⟨r, F', G', q1, q2, h'⟩ := e_can h (xs (i + 1)) (xs (i + 2)) (xs (i + 3))
  refine lv_aload_n hx hb dL_law_359 rfl (lv_at hl 1 rfl) ?_
  refine lw_arg hc hH hl 1 (by omega) rfl dL_law_360 dL_law_361 dL_law_362 dL_law_363 dL_law_364 ?_
  refine lw_arg hc hH hl 2 (by omega) rfl dL_law_365 dL_law_366 dL_law_367 dL_law_368 dL_law_369 ?_
  refine lw_arg hc hH hl 3 (by omega) rfl dL_law_370 dL_law_371 dL_law_372 dL_law_373 dL_law_374 ?_
  refine aftI (runV C hE hA hH [0, 1, 2, 3, 4, 5, 6, 7, 8, 9, 10, 11, 12, 13, 14, 15, 16, 17, 18, 19, 20, 21, 22, 23, 24, 25, 26, 27, 28, 29, 30, 31, 32, 33] nd_34 (sC_XM_X g ax am R1 R2 R3 K T SN SZ F G J) (kX5_can l g ax _ R1 R2 R3 K T SN SZ F (xs (i + 1)) (xs (i + 2)) (xs (i + 3)) r F' q1) tw_11_2 tw_11_3 tw_11_4 tw_1_2 tw_11_5 hdX5_can 0 rfl rfl rfl rfl ⟨Nat.le_of_ble_eq_true rfl, Nat.le_of_ble_eq_true rfl⟩ rfl hl.1 (rest := []) rfl (Nat.le_of_ble_eq_true rfl) dL_law_375 ⟨Nat.le_of_ble_eq_true rfl, Nat.le_of_ble_eq_true rfl⟩) hA hH [0, 1, 2, 3, 4, 5, 6, 7, 8, 9, 10, 11, 12, 13, 14, 15, 16, 17, 18, 19, 20, 21, 22, 23, 24, 25, 26, 27, 28, 29, 30, 31, 32, 33] [34, 35, 36, 37, 38, 39, 40, 41, 42, 43, 44, 45] (sC_XM_X g ax am R1 R2 R3 K T SN SZ F G J) (sR_XM_X g ax am R1 R2 R3 K T SN SZ F G J) nd_12 dj_XM_X [12, 13, 14, 15, 16, 17, 18, 19, 20, 21, 22, 23, 24, 25, 26, 27, 28, 29, 30, 31, 32, 33, 34, 35, 36, 37, 38, 39, 40, 41, 42, 43, 44, 45, 0, 1, 2, 3, 4, 5, 6, 7, 8, 9, 10, 11] nd_46p (sP_XM_X g ax am R1 R2 R3 K T SN SZ F G J R1 R2 R3 K T SN SZ F') (fun H locs hH => ?_)
  refine lv_aload_n hx hb dL_law_378 rfl (lv_at hl 2 rfl) ?_
  refine lw_arg hc hH hl 1 (by omega) rfl dL_law_379 dL_law_380 dL_law_381 dL_law_382 dL_law_383 ?_
  refine lw_arg hc hH hl 2 (by omega) rfl dL_law_384 dL_law_385 dL_law_386 dL_law_387 dL_law_388 ?_
  refine lw_arg hc hH hl 3 (by omega) rfl dL_law_389 dL_law_390 dL_law_391 dL_law_392 dL_law_393 ?_
  refine aftI (runV C hE hA hH [34, 35, 36, 37, 38, 39, 40, 41, 42, 43, 44, 45] nd_12 (sC_XM_M g ax am R1 R2 R3 K T SN SZ F' G J) (kX6_can l g am _ G J (xs (i + 1)) (xs (i + 2)) (xs (i + 3)) r G' q2) tw_11_12 tw_11_13 tw_11_14 tw_1_5 tw_11_15 hdX6_can 34 rfl rfl rfl rfl ⟨Nat.le_of_ble_eq_true rfl, Nat.le_of_ble_eq_true rfl⟩ rfl hl.1 (rest := [.int r]) rfl (Nat.le_of_ble_eq_true rfl) dL_law_394 ⟨Nat.le_of_ble_eq_true rfl, Nat.le_of_ble_eq_true rfl⟩) hA hH [34, 35, 36, 37, 38, 39, 40, 41, 42, 43, 44, 45] [0, 1, 2, 3, 4, 5, 6, 7, 8, 9, 10, 11, 12, 13, 14, 15, 16, 17, 18, 19, 20, 21, 22, 23, 24, 25, 26, 27, 28, 29, 30, 31, 32, 33] (sC_XM_M g ax am R1 R2 R3 K T SN SZ F' G J) (sR_XM_M g ax am R1 R2 R3 K T SN SZ F' G J) nd_34 dj_XM_M [0, 1, 2, 3, 4, 5, 6, 7, 8, 9, 10, 11, 12, 13, 14, 15, 16, 17, 18, 19, 20, 21, 22, 23, 24, 25, 26, 27, 28, 29, 30, 31, 32, 33, 34, 35, 36, 37, 38, 39, 40, 41, 42, 43, 44, 45] nd_46 (sP_XM_M g ax am R1 R2 R3 K T SN SZ F' G J G' J) (fun H locs hH => ?_)
  refine lv_icmp_eq (tgt := 1312) hx hb dL_law_397 (by decide) (fun _ => ?_) (fun c9 => absurd rfl c9)
  exact kk _ _ _ _ _ _ _ _ _ _ h' _ _ ls hH hl
set_option maxHeartbeats 4000000 in
set_option maxRecDepth 100000 in
theorem lc_set (hc : Lc p s m meth c b L xs g) (hi : i + 6 ≤ L) (kk : Kk p l e s m below meth c b g ax am i 1312) : Kk p l e s m below meth c b g ax am i 402 := by
  intro R1 R2 R3 K T SN SZ F G J h H locs ls hH hl
  obtain ⟨C, hE, hX, hbl, hL⟩ := id hc
  obtain ⟨hx, hb, hml, hown, hT, hr, hlk⟩ := id C
  have hA : ∀ q : Nat, s.heap.size ≤ q → aH s q := fun _ q => q
  obtain ⟨r, R1', F', G', q1, q2, h'⟩ := e_set h (xs (i + 1)) (xs (i + 2)) (xs (i + 3))
  refine lv_aload_n hx hb dL_law_402 rfl (lv_at hl 1 rfl) ?_
  refine lw_arg hc hH hl 1 (by omega) rfl dL_law_403 dL_law_404 dL_law_405 dL_law_406 dL_law_407 ?_
  refine lw_arg hc hH hl 2 (by omega) rfl dL_law_408 dL_law_409 dL_law_410 dL_law_411 dL_law_412 ?_
  refine lw_arg hc hH hl 3 (by omega) rfl dL_law_413 dL_law_414 dL_law_415 dL_law_416 dL_law_417 ?_
  refine aftI (runV C hE hA hH [0, 1, 2, 3, 4, 5, 6, 7, 8, 9, 10, 11, 12, 13, 14, 15, 16, 17, 18, 19, 20, 21, 22, 23, 24, 25, 26, 27, 28, 29, 30, 31, 32, 33] nd_34 (sC_XM_X g ax am R1 R2 R3 K T SN SZ F G J) (kX5_set l g ax _ R1 R2 R3 K T SN SZ F (xs (i + 1)) (xs (i + 2)) (xs (i + 3)) r R1' F' q1) tw_12_0 tw_12_1 tw_12_2 tw_1_2 tw_12_3 hdX5_set 0 rfl rfl rfl rfl ⟨Nat.le_of_ble_eq_true rfl, Nat.le_of_ble_eq_true rfl⟩ rfl hl.1 (rest := []) rfl (Nat.le_of_ble_eq_true rfl) dL_law_418 ⟨Nat.le_of_ble_eq_true rfl, Nat.le_of_ble_eq_true rfl⟩) hA hH [0, 1, 2, 3, 4, 5, 6, 7, 8, 9, 10, 11, 12, 13, 14, 15, 16, 17, 18, 19, 20, 21, 22, 23, 24, 25, 26, 27, 28, 29, 30, 31, 32, 33] [34, 35, 36, 37, 38, 39, 40, 41, 42, 43, 44, 45] (sC_XM_X g ax am R1 R2 R3 K T SN SZ F G J) (sR_XM_X g ax am R1 R2 R3 K T SN SZ F G J) nd_12 dj_XM_X [12, 13, 14, 15, 16, 17, 18, 19, 20, 21, 22, 23, 24, 25, 26, 27, 28, 29, 30, 31, 32, 33, 34, 35, 36, 37, 38, 39, 40, 41, 42, 43, 44, 45, 0, 1, 2, 3, 4, 5, 6, 7, 8, 9, 10, 11] nd_46p (sP_XM_X g ax am R1 R2 R3 K T SN SZ F G J R1' R2 R3 K T SN SZ F') (fun H locs hH => ?_)
  refine lv_aload_n hx hb dL_law_421 rfl (lv_at hl 2 rfl) ?_
  refine lw_arg hc hH hl 1 (by omega) rfl dL_law_422 dL_law_423 dL_law_424 dL_law_425 dL_law_426 ?_
  refine lw_arg hc hH hl 2 (by omega) rfl dL_law_427 dL_law_428 dL_law_429 dL_law_430 dL_law_431 ?_
  refine lw_arg hc hH hl 3 (by omega) rfl dL_law_432 dL_law_433 dL_law_434 dL_law_435 dL_law_436 ?_
  refine aftI (runV C hE hA hH [34, 35, 36, 37, 38, 39, 40, 41, 42, 43, 44, 45] nd_12 (sC_XM_M g ax am R1' R2 R3 K T SN SZ F' G J) (kX6_set l g am _ G J (xs (i + 1)) (xs (i + 2)) (xs (i + 3)) r G' q2) tw_12_16 tw_12_17 tw_12_18 tw_1_5 tw_12_19 hdX6_set 34 rfl rfl rfl rfl ⟨Nat.le_of_ble_eq_true rfl, Nat.le_of_ble_eq_true rfl⟩ rfl hl.1 (rest := [.int r]) rfl (Nat.le_of_ble_eq_true rfl) dL_law_437 ⟨Nat.le_of_ble_eq_true rfl, Nat.le_of_ble_eq_true rfl⟩) hA hH [34, 35, 36, 37, 38, 39, 40, 41, 42, 43, 44, 45] [0, 1, 2, 3, 4, 5, 6, 7, 8, 9, 10, 11, 12, 13, 14, 15, 16, 17, 18, 19, 20, 21, 22, 23, 24, 25, 26, 27, 28, 29, 30, 31, 32, 33] (sC_XM_M g ax am R1' R2 R3 K T SN SZ F' G J) (sR_XM_M g ax am R1' R2 R3 K T SN SZ F' G J) nd_34 dj_XM_M [0, 1, 2, 3, 4, 5, 6, 7, 8, 9, 10, 11, 12, 13, 14, 15, 16, 17, 18, 19, 20, 21, 22, 23, 24, 25, 26, 27, 28, 29, 30, 31, 32, 33, 34, 35, 36, 37, 38, 39, 40, 41, 42, 43, 44, 45] nd_46 (sP_XM_M g ax am R1' R2 R3 K T SN SZ F' G J G' J) (fun H locs hH => ?_)
  refine lv_icmp_eq (tgt := 1312) hx hb dL_law_440 (by decide) (fun _ => ?_) (fun c9 => absurd rfl c9)
  exact kk _ _ _ _ _ _ _ _ _ _ h' _ _ ls hH hl
set_option maxHeartbeats 4000000 in
set_option maxRecDepth 100000 in
theorem lc_turn (hc : Lc p s m meth c b L xs g) (hi : i + 6 ≤ L) (kk : Kk p l e s m below meth c b g ax am i 1312) : Kk p l e s m below meth c b g ax am i 445 := by
  intro R1 R2 R3 K T SN SZ F G J h H locs ls hH hl
  obtain ⟨C, hE, hX, hbl, hL⟩ := id hc
  obtain ⟨hx, hb, hml, hown, hT, hr, hlk⟩ := id C
  have hA : ∀ q : Nat, s.heap.size ≤ q → aH s q := fun _ q => q
  obtain ⟨r, R1', F', G', q1, q2, h'⟩ := e_turn h (xs (i + 1)) (xs (i + 2))
  refine lv_aload_n hx hb dL_law_445 rfl (lv_at hl 1 rfl) ?_
  refine lw_arg hc hH hl 1 (by omega) rfl dL_law_446 dL_law_447 dL_law_448 dL_law_449 dL_law_450 ?_
  refine lw_arg hc hH hl 2 (by omega) rfl dL_law_451 dL_law_452 dL_law_453 dL_law_454 dL_law_455 ?_
  refine aftI (runV C hE hA hH [0, 1, 2, 3, 4, 5, 6, 7, 8, 9, 10, 11, 12, 13, 14, 15, 16, 17, 18, 19, 20, 21, 22, 23, 24, 25, 26, 27, 28, 29, 30, 31, 32, 33] nd_34 (sC_XM_X g ax am R1 R2 R3 K T SN SZ F G J) (kX5_turn l g ax _ R1 R2 R3 K T SN SZ F (xs (i + 1)) (xs (i + 2)) r R1' F' q1) tw_13_0 tw_13_1 tw_13_2 tw_1_2 tw_13_3 hdX5_turn 0 rfl rfl rfl rfl ⟨Nat.le_of_ble_eq_true rfl, Nat.le_of_ble_eq_true rfl⟩ rfl hl.1 (rest := []) rfl (Nat.le_of_ble_eq_true rfl) dL_law_456 ⟨Nat.le_of_ble_eq_true rfl, Nat.le_of_ble_eq_true rfl⟩) hA hH [0, 1, 2, 3, 4, 5, 6, 7, 8, 9, 10, 11, 12, 13, 14, 15, 16, 17, 18, 19, 20, 21, 22, 23, 24, 25, 26, 27, 28, 29, 30, 31, 32, 33] [34, 35, 36, 37, 38, 39, 40, 41, 42, 43, 44, 45] (sC_XM_X g ax am R1 R2 R3 K T SN SZ F G J) (sR_XM_X g ax am R1 R2 R3 K T SN SZ F G J) nd_12 dj_XM_X [12, 13, 14, 15, 16, 17, 18, 19, 20, 21, 22, 23, 24, 25, 26, 27, 28, 29, 30, 31, 32, 33, 34, 35, 36, 37, 38, 39, 40, 41, 42, 43, 44, 45, 0, 1, 2, 3, 4, 5, 6, 7, 8, 9, 10, 11] nd_46p (sP_XM_X g ax am R1 R2 R3 K T SN SZ F G J R1' R2 R3 K T SN SZ F') (fun H locs hH => ?_)
  refine lv_aload_n hx hb dL_law_459 rfl (lv_at hl 2 rfl) ?_
  refine lw_arg hc hH hl 1 (by omega) rfl dL_law_460 dL_law_461 dL_law_462 dL_law_463 dL_law_464 ?_
  refine lw_arg hc hH hl 2 (by omega) rfl dL_law_465 dL_law_466 dL_law_467 dL_law_468 dL_law_469 ?_
  refine aftI (runV C hE hA hH [34, 35, 36, 37, 38, 39, 40, 41, 42, 43, 44, 45] nd_12 (sC_XM_M g ax am R1' R2 R3 K T SN SZ F' G J) (kX6_turn l g am _ G J (xs (i + 1)) (xs (i + 2)) r G' q2) tw_13_4 tw_13_5 tw_13_6 tw_1_5 tw_13_7 hdX6_turn 34 rfl rfl rfl rfl ⟨Nat.le_of_ble_eq_true rfl, Nat.le_of_ble_eq_true rfl⟩ rfl hl.1 (rest := [.int r]) rfl (Nat.le_of_ble_eq_true rfl) dL_law_470 ⟨Nat.le_of_ble_eq_true rfl, Nat.le_of_ble_eq_true rfl⟩) hA hH [34, 35, 36, 37, 38, 39, 40, 41, 42, 43, 44, 45] [0, 1, 2, 3, 4, 5, 6, 7, 8, 9, 10, 11, 12, 13, 14, 15, 16, 17, 18, 19, 20, 21, 22, 23, 24, 25, 26, 27, 28, 29, 30, 31, 32, 33] (sC_XM_M g ax am R1' R2 R3 K T SN SZ F' G J) (sR_XM_M g ax am R1' R2 R3 K T SN SZ F' G J) nd_34 dj_XM_M [0, 1, 2, 3, 4, 5, 6, 7, 8, 9, 10, 11, 12, 13, 14, 15, 16, 17, 18, 19, 20, 21, 22, 23, 24, 25, 26, 27, 28, 29, 30, 31, 32, 33, 34, 35, 36, 37, 38, 39, 40, 41, 42, 43, 44, 45] nd_46 (sP_XM_M g ax am R1' R2 R3 K T SN SZ F' G J G' J) (fun H locs hH => ?_)
  refine lv_icmp_eq (tgt := 1312) hx hb dL_law_473 (by decide) (fun _ => ?_) (fun c9 => absurd rfl c9)
  exact kk _ _ _ _ _ _ _ _ _ _ h' _ _ ls hH hl
set_option maxHeartbeats 4000000 in
set_option maxRecDepth 100000 in
theorem lc_as (hc : Lc p s m meth c b L xs g) (hi : i + 6 ≤ L) (kk : Kk p l e s m below meth c b g ax am i 1312) : Kk p l e s m below meth c b g ax am i 478 := by
  intro R1 R2 R3 K T SN SZ F G J h H locs ls hH hl
  obtain ⟨C, hE, hX, hbl, hL⟩ := id hc
  obtain ⟨hx, hb, hml, hown, hT, hr, hlk⟩ := id C
  have hA : ∀ q : Nat, s.heap.size ≤ q → aH s q := fun _ q => q
  obtain ⟨r, F', G', q1, q2, h'⟩ := e_as h (xs (i + 1)) (xs (i + 2))
  refine lv_aload_n hx hb dL_law_478 rfl (lv_at hl 1 rfl) ?_
  refine lw_arg hc hH hl 1 (by omega) rfl dL_law_479 dL_law_480 dL_law_481 dL_law_482 dL_law_483 ?_
  refine lw_arg hc hH hl 2 (by omega) rfl dL_law_484 dL_law_485 dL_law_486 dL_law_487 dL_law_488 ?_
  refine aftI (runV C hE hA hH [0, 1, 2, 3, 4, 5, 6, 7, 8, 9, 10, 11, 12, 13, 14, 15, 16, 17, 18, 19, 20, 21, 22, 23, 24, 25, 26, 27, 28, 29, 30, 31, 32, 33] nd_34 (sC_XM_X g ax am R1 R2 R3 K T SN SZ F G J) (kX5_as l g ax _ R1 R2 R3 K T SN SZ F (xs (i + 1)) (xs (i + 2)) r F' q1) tw_13_8 tw_13_9 tw_13_10 tw_1_2 tw_13_11 hdX5_as 0 rfl rfl rfl rfl ⟨Nat.le_of_ble_eq_true rfl, Nat.le_of_ble_eq_true rfl⟩ rfl hl.1 (rest := []) rfl (Nat.le_of_ble_eq_true rfl) dL_law_489 ⟨Nat.le_of_ble_eq_true rfl, Nat.le_of_ble_eq_true rfl⟩) hA hH [0, 1, 2, 3, 4, 5, 6, 7, 8, 9, 10, 11, 12, 13, 14, 15, 16, 17, 18, 19, 20, 21, 22, 23, 24, 25, 26, 27, 28, 29, 30, 31, 32, 33] [34, 35, 36, 37, 38, 39, 40, 41, 42, 43, 44, 45] (sC_XM_X g ax am R1 R2 R3 K T SN SZ F G J) (sR_XM_X g ax am R1 R2 R3 K T SN SZ F G J) nd_12 dj_XM_X [12, 13, 14, 15, 16, 17, 18, 19, 20, 21, 22, 23, 24, 25, 26, 27, 28, 29, 30, 31, 32, 33, 34, 35, 36, 37, 38, 39, 40, 41, 42, 43, 44, 45, 0, 1, 2, 3, 4, 5, 6, 7, 8, 9, 10, 11] nd_46p (sP_XM_X g ax am R1 R2 R3 K T SN SZ F G J R1 R2 R3 K T SN SZ F') (fun H locs hH => ?_)
  refine lv_aload_n hx hb dL_law_492 rfl (lv_at hl 2 rfl) ?_
  refine lw_arg hc hH hl 1 (by omega) rfl dL_law_493 dL_law_494 dL_law_495 dL_law_496 dL_law_497 ?_
  refine lw_arg hc hH hl 2 (by omega) rfl dL_law_498 dL_law_499 dL_law_500 dL_law_501 dL_law_502 ?_
  refine aftI (runV C hE hA hH [34, 35, 36, 37, 38, 39, 40, 41, 42, 43, 44, 45] nd_12 (sC_XM_M g ax am R1 R2 R3 K T SN SZ F' G J) (kX6_as l g am _ G J (xs (i + 1)) (xs (i + 2)) r G' q2) tw_13_14 tw_13_15 tw_13_16 tw_1_5 tw_13_17 hdX6_as 34 rfl rfl rfl rfl ⟨Nat.le_of_ble_eq_true rfl, Nat.le_of_ble_eq_true rfl⟩ rfl hl.1 (rest := [.int r]) rfl (Nat.le_of_ble_eq_true rfl) dL_law_503 ⟨Nat.le_of_ble_eq_true rfl, Nat.le_of_ble_eq_true rfl⟩) hA hH [34, 35, 36, 37, 38, 39, 40, 41, 42, 43, 44, 45] [0, 1, 2, 3, 4, 5, 6, 7, 8, 9, 10, 11, 12, 13, 14, 15, 16, 17, 18, 19, 20, 21, 22, 23, 24, 25, 26, 27, 28, 29, 30, 31, 32, 33] (sC_XM_M g ax am R1 R2 R3 K T SN SZ F' G J) (sR_XM_M g ax am R1 R2 R3 K T SN SZ F' G J) nd_34 dj_XM_M [0, 1, 2, 3, 4, 5, 6, 7, 8, 9, 10, 11, 12, 13, 14, 15, 16, 17, 18, 19, 20, 21, 22, 23, 24, 25, 26, 27, 28, 29, 30, 31, 32, 33, 34, 35, 36, 37, 38, 39, 40, 41, 42, 43, 44, 45] nd_46 (sP_XM_M g ax am R1 R2 R3 K T SN SZ F' G J G' J) (fun H locs hH => ?_)
  refine lv_icmp_eq (tgt := 1312) hx hb dL_law_506 (by decide) (fun _ => ?_) (fun c9 => absurd rfl c9)
  exact kk _ _ _ _ _ _ _ _ _ _ h' _ _ ls hH hl
set_option maxHeartbeats 4000000 in
set_option maxRecDepth 100000 in
theorem lc_days (hc : Lc p s m meth c b L xs g) (hi : i + 6 ≤ L) (kk : Kk p l e s m below meth c b g ax am i 1312) : Kk p l e s m below meth c b g ax am i 511 := by
  intro R1 R2 R3 K T SN SZ F G J h H locs ls hH hl
  obtain ⟨C, hE, hX, hbl, hL⟩ := id hc
  obtain ⟨hx, hb, hml, hown, hT, hr, hlk⟩ := id C
  have hA : ∀ q : Nat, s.heap.size ≤ q → aH s q := fun _ q => q
  obtain ⟨r, R1', F', G', q1, q2, h'⟩ := e_days h (xs (i + 1))
  refine lv_aload_n hx hb dL_law_511 rfl (lv_at hl 1 rfl) ?_
  refine lw_arg hc hH hl 1 (by omega) rfl dL_law_512 dL_law_513 dL_law_514 dL_law_515 dL_law_516 ?_
  refine aftI (runV C hE hA hH [0, 1, 2, 3, 4, 5, 6, 7, 8, 9, 10, 11, 12, 13, 14, 15, 16, 17, 18, 19, 20, 21, 22, 23, 24, 25, 26, 27, 28, 29, 30, 31, 32, 33] nd_34 (sC_XM_X g ax am R1 R2 R3 K T SN SZ F G J) (kX5_days l g ax _ R1 R2 R3 K T SN SZ F (xs (i + 1)) r R1' F' q1) tw_13_19 tw_13_20 tw_13_21 tw_1_2 tw_13_22 hdX5_days 0 rfl rfl rfl rfl ⟨Nat.le_of_ble_eq_true rfl, Nat.le_of_ble_eq_true rfl⟩ rfl hl.1 (rest := []) rfl (Nat.le_of_ble_eq_true rfl) dL_law_517 ⟨Nat.le_of_ble_eq_true rfl, Nat.le_of_ble_eq_true rfl⟩) hA hH [0, 1, 2, 3, 4, 5, 6, 7, 8, 9, 10, 11, 12, 13, 14, 15, 16, 17, 18, 19, 20, 21, 22, 23, 24, 25, 26, 27, 28, 29, 30, 31, 32, 33] [34, 35, 36, 37, 38, 39, 40, 41, 42, 43, 44, 45] (sC_XM_X g ax am R1 R2 R3 K T SN SZ F G J) (sR_XM_X g ax am R1 R2 R3 K T SN SZ F G J) nd_12 dj_XM_X [12, 13, 14, 15, 16, 17, 18, 19, 20, 21, 22, 23, 24, 25, 26, 27, 28, 29, 30, 31, 32, 33, 34, 35, 36, 37, 38, 39, 40, 41, 42, 43, 44, 45, 0, 1, 2, 3, 4, 5, 6, 7, 8, 9, 10, 11] nd_46p (sP_XM_X g ax am R1 R2 R3 K T SN SZ F G J R1' R2 R3 K T SN SZ F') (fun H locs hH => ?_)
  refine lv_aload_n hx hb dL_law_520 rfl (lv_at hl 2 rfl) ?_
  refine lw_arg hc hH hl 1 (by omega) rfl dL_law_521 dL_law_522 dL_law_523 dL_law_524 dL_law_525 ?_
  refine aftI (runV C hE hA hH [34, 35, 36, 37, 38, 39, 40, 41, 42, 43, 44, 45] nd_12 (sC_XM_M g ax am R1' R2 R3 K T SN SZ F' G J) (kX6_days l g am _ G J (xs (i + 1)) r G' q2) tw_16_4 tw_16_5 tw_16_6 tw_1_5 tw_16_7 hdX6_days 34 rfl rfl rfl rfl ⟨Nat.le_of_ble_eq_true rfl, Nat.le_of_ble_eq_true rfl⟩ rfl hl.1 (rest := [.int r]) rfl (Nat.le_of_ble_eq_true rfl) dL_law_526 ⟨Nat.le_of_ble_eq_true rfl, Nat.le_of_ble_eq_true rfl⟩) hA hH [34, 35, 36, 37, 38, 39, 40, 41, 42, 43, 44, 45] [0, 1, 2, 3, 4, 5, 6, 7, 8, 9, 10, 11, 12, 13, 14, 15, 16, 17, 18, 19, 20, 21, 22, 23, 24, 25, 26, 27, 28, 29, 30, 31, 32, 33] (sC_XM_M g ax am R1' R2 R3 K T SN SZ F' G J) (sR_XM_M g ax am R1' R2 R3 K T SN SZ F' G J) nd_34 dj_XM_M [0, 1, 2, 3, 4, 5, 6, 7, 8, 9, 10, 11, 12, 13, 14, 15, 16, 17, 18, 19, 20, 21, 22, 23, 24, 25, 26, 27, 28, 29, 30, 31, 32, 33, 34, 35, 36, 37, 38, 39, 40, 41, 42, 43, 44, 45] nd_46 (sP_XM_M g ax am R1' R2 R3 K T SN SZ F' G J G' J) (fun H locs hH => ?_)
  refine lv_icmp_eq (tgt := 1312) hx hb dL_law_529 (by decide) (fun _ => ?_) (fun c9 => absurd rfl c9)
  exact kk _ _ _ _ _ _ _ _ _ _ h' _ _ ls hH hl
set_option maxHeartbeats 4000000 in
set_option maxRecDepth 100000 in
theorem lc_now (hc : Lc p s m meth c b L xs g) (hi : i + 6 ≤ L) (kk : Kk p l e s m below meth c b g ax am i 1312) : Kk p l e s m below meth c b g ax am i 534 := by
  intro R1 R2 R3 K T SN SZ F G J h H locs ls hH hl
  obtain ⟨C, hE, hX, hbl, hL⟩ := id hc
  obtain ⟨hx, hb, hml, hown, hT, hr, hlk⟩ := id C
  have hA : ∀ q : Nat, s.heap.size ≤ q → aH s q := fun _ q => q
  obtain ⟨r, F', G', q1, q2, h'⟩ := e_now h (xs (i + 1))
  refine lv_aload_n hx hb dL_law_534 rfl (lv_at hl 1 rfl) ?_
  refine lw_arg hc hH hl 1 (by omega) rfl dL_law_535 dL_law_536 dL_law_537 dL_law_538 dL_law_539 ?_
  refine aftI (runV C hE hA hH [0, 1, 2, 3, 4, 5, 6, 7, 8, 9, 10, 11, 12, 13, 14, 15, 16, 17, 18, 19, 20, 21, 22, 23, 24, 25, 26, 27, 28, 29, 30, 31, 32, 33] nd_34 (sC_XM_X g ax am R1 R2 R3 K T SN SZ F G J) (kX5_now l g ax _ R1 R2 R3 K T SN SZ F (xs (i + 1)) r F' q1) tw_17_20 tw_17_21 tw_17_22 tw_1_2 tw_17_23 hdX5_now 0 rfl rfl rfl rfl ⟨Nat.le_of_ble_eq_true rfl, Nat.le_of_ble_eq_true rfl⟩ rfl hl.1 (rest := []) rfl (Nat.le_of_ble_eq_true rfl) dL_law_540 ⟨Nat.le_of_ble_eq_true rfl, Nat.le_of_ble_eq_true rfl⟩) hA hH [0, 1, 2, 3, 4, 5, 6, 7, 8, 9, 10, 11, 12, 13, 14, 15, 16, 17, 18, 19, 20, 21, 22, 23, 24, 25, 26, 27, 28, 29, 30, 31, 32, 33] [34, 35, 36, 37, 38, 39, 40, 41, 42, 43, 44, 45] (sC_XM_X g ax am R1 R2 R3 K T SN SZ F G J) (sR_XM_X g ax am R1 R2 R3 K T SN SZ F G J) nd_12 dj_XM_X [12, 13, 14, 15, 16, 17, 18, 19, 20, 21, 22, 23, 24, 25, 26, 27, 28, 29, 30, 31, 32, 33, 34, 35, 36, 37, 38, 39, 40, 41, 42, 43, 44, 45, 0, 1, 2, 3, 4, 5, 6, 7, 8, 9, 10, 11] nd_46p (sP_XM_X g ax am R1 R2 R3 K T SN SZ F G J R1 R2 R3 K T SN SZ F') (fun H locs hH => ?_)
  refine lv_aload_n hx hb dL_law_543 rfl (lv_at hl 2 rfl) ?_
  refine lw_arg hc hH hl 1 (by omega) rfl dL_law_544 dL_law_545 dL_law_546 dL_law_547 dL_law_548 ?_
  refine aftI (runV C hE hA hH [34, 35, 36, 37, 38, 39, 40, 41, 42, 43, 44, 45] nd_12 (sC_XM_M g ax am R1 R2 R3 K T SN SZ F' G J) (kX6_now l g am _ G J (xs (i + 1)) r G' q2) tw_18_6 tw_18_7 tw_18_8 tw_1_5 tw_18_9 hdX6_now 34 rfl rfl rfl rfl ⟨Nat.le_of_ble_eq_true rfl, Nat.le_of_ble_eq_true rfl⟩ rfl hl.1 (rest := [.int r]) rfl (Nat.le_of_ble_eq_true rfl) dL_law_549 ⟨Nat.le_of_ble_eq_true rfl, Nat.le_of_ble_eq_true rfl⟩) hA hH [34, 35, 36, 37, 38, 39, 40, 41, 42, 43, 44, 45] [0, 1, 2, 3, 4, 5, 6, 7, 8, 9, 10, 11, 12, 13, 14, 15, 16, 17, 18, 19, 20, 21, 22, 23, 24, 25, 26, 27, 28, 29, 30, 31, 32, 33] (sC_XM_M g ax am R1 R2 R3 K T SN SZ F' G J) (sR_XM_M g ax am R1 R2 R3 K T SN SZ F' G J) nd_34 dj_XM_M [0, 1, 2, 3, 4, 5, 6, 7, 8, 9, 10, 11, 12, 13, 14, 15, 16, 17, 18, 19, 20, 21, 22, 23, 24, 25, 26, 27, 28, 29, 30, 31, 32, 33, 34, 35, 36, 37, 38, 39, 40, 41, 42, 43, 44, 45] nd_46 (sP_XM_M g ax am R1 R2 R3 K T SN SZ F' G J G' J) (fun H locs hH => ?_)
  refine lv_icmp_eq (tgt := 1312) hx hb dL_law_552 (by decide) (fun _ => ?_) (fun c9 => absurd rfl c9)
  exact kk _ _ _ _ _ _ _ _ _ _ h' _ _ ls hH hl
set_option maxHeartbeats 4000000 in
set_option maxRecDepth 100000 in
theorem lc_on (hc : Lc p s m meth c b L xs g) (hi : i + 6 ≤ L) (kk : Kk p l e s m below meth c b g ax am i 1312) : Kk p l e s m below meth c b g ax am i 557 := by
  intro R1 R2 R3 K T SN SZ F G J h H locs ls hH hl
  obtain ⟨C, hE, hX, hbl, hL⟩ := id hc
  obtain ⟨hx, hb, hml, hown, hT, hr, hlk⟩ := id C
  have hA : ∀ q : Nat, s.heap.size ≤ q → aH s q := fun _ q => q
  obtain ⟨r, R2', F', G', q1, q2, h'⟩ := e_on h (xs (i + 1)) (xs (i + 2)) (xs (i + 3))
  refine lv_aload_n hx hb dL_law_557 rfl (lv_at hl 1 rfl) ?_
  refine lw_arg hc hH hl 1 (by omega) rfl dL_law_558 dL_law_559 dL_law_560 dL_law_561 dL_law_562 ?_
  refine lw_arg hc hH hl 2 (by omega) rfl dL_law_563 dL_law_564 dL_law_565 dL_law_566 dL_law_567 ?_
  refine lw_arg hc hH hl 3 (by omega) rfl dL_law_568 dL_law_569 dL_law_570 dL_law_571 dL_law_572 ?_
  refine aftI (runV C hE hA hH [0, 1, 2, 3, 4, 5, 6, 7, 8, 9, 10, 11, 12, 13, 14, 15, 16, 17, 18, 19, 20, 21, 22, 23, 24, 25, 26, 27, 28, 29, 30, 31, 32, 33] nd_34 (sC_XM_X g ax am R1 R2 R3 K T SN SZ F G J) (kX5_on l g ax _ R1 R2 R3 K T SN SZ F (xs (i + 1)) (xs (i + 2)) (xs (i + 3)) r R2' F' q1) tw_18_10 tw_18_11 tw_18_12 tw_1_2 tw_18_13 hdX5_on 0 rfl rfl rfl rfl ⟨Nat.le_of_ble_eq_true rfl, Nat.le_of_ble_eq_true rfl⟩ rfl hl.1 (rest := []) rfl (Nat.le_of_ble_eq_true rfl) dL_law_573 ⟨Nat.le_of_ble_eq_true rfl, Nat.le_of_ble_eq_true rfl⟩) hA hH [0, 1, 2, 3, 4, 5, 6, 7, 8, 9, 10, 11, 12, 13, 14, 15, 16, 17, 18, 19, 20, 21, 22, 23, 24, 25, 26, 27, 28, 29, 30, 31, 32, 33] [34, 35, 36, 37, 38, 39, 40, 41, 42, 43, 44, 45] (sC_XM_X g ax am R1 R2 R3 K T SN SZ F G J) (sR_XM_X g ax am R1 R2 R3 K T SN SZ F G J) nd_12 dj_XM_X [12, 13, 14, 15, 16, 17, 18, 19, 20, 21, 22, 23, 24, 25, 26, 27, 28, 29, 30, 31, 32, 33, 34, 35, 36, 37, 38, 39, 40, 41, 42, 43, 44, 45, 0, 1, 2, 3, 4, 5, 6, 7, 8, 9, 10, 11] nd_46p (sP_XM_X g ax am R1 R2 R3 K T SN SZ F G J R1 R2' R3 K T SN SZ F') (fun H locs hH => ?_)
  refine lv_aload_n hx hb dL_law_576 rfl (lv_at hl 2 rfl) ?_
  refine lw_arg hc hH hl 1 (by omega) rfl dL_law_577 dL_law_578 dL_law_579 dL_law_580 dL_law_581 ?_
  refine lw_arg hc hH hl 2 (by omega) rfl dL_law_582 dL_law_583 dL_law_584 dL_law_585 dL_law_586 ?_
  refine lw_arg hc hH hl 3 (by omega) rfl dL_law_587 dL_law_588 dL_law_589 dL_law_590 dL_law_591 ?_
  refine aftI (runV C hE hA hH [34, 35, 36, 37, 38, 39, 40, 41, 42, 43, 44, 45] nd_12 (sC_XM_M g ax am R1 R2' R3 K T SN SZ F' G J) (kX6_on l g am _ G J (xs (i + 1)) (xs (i + 2)) (xs (i + 3)) r G' q2) tw_19_2 tw_19_3 tw_19_4 tw_1_5 tw_19_5 hdX6_on 34 rfl rfl rfl rfl ⟨Nat.le_of_ble_eq_true rfl, Nat.le_of_ble_eq_true rfl⟩ rfl hl.1 (rest := [.int r]) rfl (Nat.le_of_ble_eq_true rfl) dL_law_592 ⟨Nat.le_of_ble_eq_true rfl, Nat.le_of_ble_eq_true rfl⟩) hA hH [34, 35, 36, 37, 38, 39, 40, 41, 42, 43, 44, 45] [0, 1, 2, 3, 4, 5, 6, 7, 8, 9, 10, 11, 12, 13, 14, 15, 16, 17, 18, 19, 20, 21, 22, 23, 24, 25, 26, 27, 28, 29, 30, 31, 32, 33] (sC_XM_M g ax am R1 R2' R3 K T SN SZ F' G J) (sR_XM_M g ax am R1 R2' R3 K T SN SZ F' G J) nd_34 dj_XM_M [0, 1, 2, 3, 4, 5, 6, 7, 8, 9, 10, 11, 12, 13, 14, 15, 16, 17, 18, 19, 20, 21, 22, 23, 24, 25, 26, 27, 28, 29, 30, 31, 32, 33, 34, 35, 36, 37, 38, 39, 40, 41, 42, 43, 44, 45] nd_46 (sP_XM_M g ax am R1 R2' R3 K T SN SZ F' G J G' J) (fun H locs hH => ?_)
  refine lv_icmp_eq (tgt := 1312) hx hb dL_law_595 (by decide) (fun _ => ?_) (fun c9 => absurd rfl c9)
  exact kk _ _ _ _ _ _ _ _ _ _ h' _ _ ls hH hl
set_option maxHeartbeats 4000000 in
set_option maxRecDepth 100000 in
theorem lc_oil (hc : Lc p s m meth c b L xs g) (hi : i + 6 ≤ L) (kk : Kk p l e s m below meth c b g ax am i 1312) : Kk p l e s m below meth c b g ax am i 600 := by
  intro R1 R2 R3 K T SN SZ F G J h H locs ls hH hl
  obtain ⟨C, hE, hX, hbl, hL⟩ := id hc
  obtain ⟨hx, hb, hml, hown, hT, hr, hlk⟩ := id C
  have hA : ∀ q : Nat, s.heap.size ≤ q → aH s q := fun _ q => q
  obtain ⟨r, R2', F', G', q1, q2, h'⟩ := e_oil h (xs (i + 1))
  refine lv_aload_n hx hb dL_law_600 rfl (lv_at hl 1 rfl) ?_
  refine lw_arg hc hH hl 1 (by omega) rfl dL_law_601 dL_law_602 dL_law_603 dL_law_604 dL_law_605 ?_
  refine aftI (runV C hE hA hH [0, 1, 2, 3, 4, 5, 6, 7, 8, 9, 10, 11, 12, 13, 14, 15, 16, 17, 18, 19, 20, 21, 22, 23, 24, 25, 26, 27, 28, 29, 30, 31, 32, 33] nd_34 (sC_XM_X g ax am R1 R2 R3 K T SN SZ F G J) (kX5_oil l g ax _ R1 R2 R3 K T SN SZ F (xs (i + 1)) r R2' F' q1) tw_19_10 tw_19_11 tw_19_12 tw_1_2 tw_19_13 hdX5_oil 0 rfl rfl rfl rfl ⟨Nat.le_of_ble_eq_true rfl, Nat.le_of_ble_eq_true rfl⟩ rfl hl.1 (rest := []) rfl (Nat.le_of_ble_eq_true rfl) dL_law_606 ⟨Nat.le_of_ble_eq_true rfl, Nat.le_of_ble_eq_true rfl⟩) hA hH [0, 1, 2, 3, 4, 5, 6, 7, 8, 9, 10, 11, 12, 13, 14, 15, 16, 17, 18, 19, 20, 21, 22, 23, 24, 25, 26, 27, 28, 29, 30, 31, 32, 33] [34, 35, 36, 37, 38, 39, 40, 41, 42, 43, 44, 45] (sC_XM_X g ax am R1 R2 R3 K T SN SZ F G J) (sR_XM_X g ax am R1 R2 R3 K T SN SZ F G J) nd_12 dj_XM_X [12, 13, 14, 15, 16, 17, 18, 19, 20, 21, 22, 23, 24, 25, 26, 27, 28, 29, 30, 31, 32, 33, 34, 35, 36, 37, 38, 39, 40, 41, 42, 43, 44, 45, 0, 1, 2, 3, 4, 5, 6, 7, 8, 9, 10, 11] nd_46p (sP_XM_X g ax am R1 R2 R3 K T SN SZ F G J R1 R2' R3 K T SN SZ F') (fun H locs hH => ?_)
  refine lv_aload_n hx hb dL_law_609 rfl (lv_at hl 2 rfl) ?_
  refine lw_arg hc hH hl 1 (by omega) rfl dL_law_610 dL_law_611 dL_law_612 dL_law_613 dL_law_614 ?_
  refine aftI (runV C hE hA hH [34, 35, 36, 37, 38, 39, 40, 41, 42, 43, 44, 45] nd_12 (sC_XM_M g ax am R1 R2' R3 K T SN SZ F' G J) (kX6_oil l g am _ G J (xs (i + 1)) r G' q2) tw_19_14 tw_19_15 tw_19_16 tw_1_5 tw_19_17 hdX6_oil 34 rfl rfl rfl rfl ⟨Nat.le_of_ble_eq_true rfl, Nat.le_of_ble_eq_true rfl⟩ rfl hl.1 (rest := [.int r]) rfl (Nat.le_of_ble_eq_true rfl) dL_law_615 ⟨Nat.le_of_ble_eq_true rfl, Nat.le_of_ble_eq_true rfl⟩) hA hH [34, 35, 36, 37, 38, 39, 40, 41, 42, 43, 44, 45] [0, 1, 2, 3, 4, 5, 6, 7, 8, 9, 10, 11, 12, 13, 14, 15, 16, 17, 18, 19, 20, 21, 22, 23, 24, 25, 26, 27, 28, 29, 30, 31, 32, 33] (sC_XM_M g ax am R1 R2' R3 K T SN SZ F' G J) (sR_XM_M g ax am R1 R2' R3 K T SN SZ F' G J) nd_34 dj_XM_M [0, 1, 2, 3, 4, 5, 6, 7, 8, 9, 10, 11, 12, 13, 14, 15, 16, 17, 18, 19, 20, 21, 22, 23, 24, 25, 26, 27, 28, 29, 30, 31, 32, 33, 34, 35, 36, 37, 38, 39, 40, 41, 42, 43, 44, 45] nd_46 (sP_XM_M g ax am R1 R2' R3 K T SN SZ F' G J G' J) (fun H locs hH => ?_)
  refine lv_icmp_eq (tgt := 1312) hx hb dL_law_618 (by decide) (fun _ => ?_) (fun c9 => absurd rfl c9)
  exact kk _ _ _ _ _ _ _ _ _ _ h' _ _ ls hH hl
end LB
