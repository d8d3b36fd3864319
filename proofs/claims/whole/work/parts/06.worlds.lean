def wL (g : Gl) (ad : Nat → Nat) (L : M2) : va_W := [(ad 0, .inr (0, [.ref (ad 1), .int (L 0 0), .int (L 0 1), .int (L 0 4), .int (L 0 2), .int (L 0 3), .int (L 0 5), .int (L 0 6), .ref (ad 2), .ref (ad 3), .ref (ad 4), .ref (ad 5), .ref (ad 6), .int (L 0 7), .int (L 0 8)])), (ad 1, .inl (gI g, 28, .inl (L 1))), (ad 2, .inl (gI g, 8, .inl (L 2))), (ad 3, .inl (gI g, 8, .inl (L 3))), (ad 4, .inl (gI g, 8, .inl (L 4))), (ad 5, .inl (gI g, 8, .inl (L 5))), (ad 6, .inl (gI g, 8, .inl (L 6)))]
def wT (g : Gl) (ad : Nat → Nat) (T : M2) : va_W := [(ad 0, .inr (2, [.ref (ad 1), .int (T 0 0), .int (T 0 1), .int (T 0 2), .int (T 0 3), .int (T 0 4)])), (ad 1, .inl (gI g, 120, .inl (T 1)))]
def wS (g : Gl) (ad : Nat → Nat) (B : J1) (Z : M1) : va_W := [(ad 0, .inr (1, [.ref (ad 1), .int (Z 0), .int (Z 1)])), (ad 1, .inl (gJ g, 40, .inr (.inl (B))))]
def wA (g : Gl) (ad : Nat → Nat) (B : J1) : va_W := [(ad 0, .inl (gJ g, 40, .inr (.inl (B))))]
def wM (g : Gl) (ad : Nat → Nat) (G : M2) (J : J2) : va_W := [(ad 0, .inr (4, [.ref (ad 1), .ref (ad 2), .int (G 0 0), .int (G 0 1), .ref (ad 3), .ref (ad 4), .ref (ad 5), .int (G 0 2), .int (G 0 3), .int (G 0 4), .int (G 0 5), .long (J 0 0), .int (G 0 6), .int (G 0 7), .ref (ad 6), .ref (ad 7), .ref (ad 10), .ref (ad 11), .ref (ad 8), .ref (ad 9), .int (G 0 8)])), (ad 1, .inl (gI g, 75, .inl (G 1))), (ad 2, .inl (gI g, 7, .inl (G 2))), (ad 3, .inl (gI g, 75, .inl (G 3))), (ad 4, .inl (gI g, 75, .inl (G 4))), (ad 5, .inl (gI g, 120, .inl (G 5))), (ad 6, .inl (gI g, 4, .inl (G 6))), (ad 7, .inl (gI g, 4, .inl (G 7))), (ad 8, .inl (gI g, 75, .inl (G 8))), (ad 9, .inl (gI g, 75, .inl (G 9))), (ad 10, .inl (gJ g, 160, .inr (.inl (J 1)))), (ad 11, .inl (gJ g, 40, .inr (.inl (J 2))))]
def wLL (g : Gl) (ad : Nat → Nat) (L O : M2) : va_W := wL g ad L ++ wL g (fun k => ad (7 + k)) O
def wTL (g : Gl) (ad : Nat → Nat) (T L : M2) : va_W := wT g ad T ++ wL g (fun k => ad (2 + k)) L
def wX (g : Gl) (ad : Nat → Nat) (R1 : M2) (R2 : M2) (R3 : M2) (K : Int32) (T : M2) (SN : J2) (SZ : M2) (F : M1) : va_W := [(ad 0, .inr (3, [.ref (ad 1), .ref (ad 8), .ref (ad 15), .int K, .ref (ad 22), .ref (ad 24), .ref (ad 33)])), (ad 1, .inr (0, [.ref (ad 2), .int (R1 0 0), .int (R1 0 1), .int (R1 0 4), .int (R1 0 2), .int (R1 0 3), .int (R1 0 5), .int (R1 0 6), .ref (ad 3), .ref (ad 4), .ref (ad 5), .ref (ad 6), .ref (ad 7), .int (R1 0 7), .int (R1 0 8)])), (ad 2, .inl (gI g, 28, .inl (R1 1))), (ad 3, .inl (gI g, 8, .inl (R1 2))), (ad 4, .inl (gI g, 8, .inl (R1 3))), (ad 5, .inl (gI g, 8, .inl (R1 4))), (ad 6, .inl (gI g, 8, .inl (R1 5))), (ad 7, .inl (gI g, 8, .inl (R1 6))), (ad 8, .inr (0, [.ref (ad 9), .int (R2 0 0), .int (R2 0 1), .int (R2 0 4), .int (R2 0 2), .int (R2 0 3), .int (R2 0 5), .int (R2 0 6), .ref (ad 10), .ref (ad 11), .ref (ad 12), .ref (ad 13), .ref (ad 14), .int (R2 0 7), .int (R2 0 8)])), (ad 9, .inl (gI g, 28, .inl (R2 1))), (ad 10, .inl (gI g, 8, .inl (R2 2))), (ad 11, .inl (gI g, 8, .inl (R2 3))), (ad 12, .inl (gI g, 8, .inl (R2 4))), (ad 13, .inl (gI g, 8, .inl (R2 5))), (ad 14, .inl (gI g, 8, .inl (R2 6))), (ad 15, .inr (0, [.ref (ad 16), .int (R3 0 0), .int (R3 0 1), .int (R3 0 4), .int (R3 0 2), .int (R3 0 3), .int (R3 0 5), .int (R3 0 6), .ref (ad 17), .ref (ad 18), .ref (ad 19), .ref (ad 20), .ref (ad 21), .int (R3 0 7), .int (R3 0 8)])), (ad 16, .inl (gI g, 28, .inl (R3 1))), (ad 17, .inl (gI g, 8, .inl (R3 2))), (ad 18, .inl (gI g, 8, .inl (R3 3))), (ad 19, .inl (gI g, 8, .inl (R3 4))), (ad 20, .inl (gI g, 8, .inl (R3 5))), (ad 21, .inl (gI g, 8, .inl (R3 6))), (ad 22, .inr (2, [.ref (ad 23), .int (T 0 0), .int (T 0 1), .int (T 0 2), .int (T 0 3), .int (T 0 4)])), (ad 23, .inl (gI g, 120, .inl (T 1))), (ad 24, .inl (gS g, 4, .inr (.inr (.inr (.inr (fun j => if j < 4 then some (ad (25 + 2 * j)) else none)))))), (ad 25, .inr (1, [.ref (ad 26), .int (SZ 0 0), .int (SZ 0 1)])), (ad 26, .inl (gJ g, 40, .inr (.inl (SN 0)))), (ad 27, .inr (1, [.ref (ad 28), .int (SZ 1 0), .int (SZ 1 1)])), (ad 28, .inl (gJ g, 40, .inr (.inl (SN 1)))), (ad 29, .inr (1, [.ref (ad 30), .int (SZ 2 0), .int (SZ 2 1)])), (ad 30, .inl (gJ g, 40, .inr (.inl (SN 2)))), (ad 31, .inr (1, [.ref (ad 32), .int (SZ 3 0), .int (SZ 3 1)])), (ad 32, .inl (gJ g, 40, .inr (.inl (SN 3)))), (ad 33, .inl (gI g, 7, .inl (F)))]
-- L in L
theorem sC_L_L_0_6 (g : Gl) (ad : Nat → Nat) (L : M2) : ([0, 1, 2, 3, 4, 5, 6] : List Nat).map (fun i => (wL g ad L)[i]?) = (wL g ad L).map some := rfl
def wr_L_L_0_6 (g : Gl) (ad : Nat → Nat) (L : M2) : va_W := ([] : List Nat).filterMap (fun i => (wL g ad L)[i]?)
theorem sR_L_L_0_6 (g : Gl) (ad : Nat → Nat) (L : M2) : ([] : List Nat).map (fun i => (wL g ad L)[i]?) = (wr_L_L_0_6 g ad L).map some := rfl
theorem sP_L_L_0_6 (g : Gl) (ad : Nat → Nat) (L : M2) (L_n : M2) : ([0, 1, 2, 3, 4, 5, 6] : List Nat).map (fun i => (wr_L_L_0_6 g ad L ++ wL g ad L_n)[i]?) = (wL g ad L_n).map some := rfl
theorem nC_L_L_0_6 : va_nd [0, 1, 2, 3, 4, 5, 6] = true := by decide
theorem nR_L_L_0_6 : va_nd [] = true := by decide
theorem nP_L_L_0_6 : va_nd [0, 1, 2, 3, 4, 5, 6] = true := by decide
theorem dj_L_L_0_6 : ∀ i ∈ ([] : List Nat), i ∉ ([0, 1, 2, 3, 4, 5, 6] : List Nat) := by decide
-- LL in LL
theorem sC_LL_LL_0_13 (g : Gl) (ad : Nat → Nat) (L : M2) (O : M2) : ([0, 1, 2, 3, 4, 5, 6, 7, 8, 9, 10, 11, 12, 13] : List Nat).map (fun i => (wLL g ad L O)[i]?) = (wLL g ad L O).map some := rfl
def wr_LL_LL_0_13 (g : Gl) (ad : Nat → Nat) (L : M2) (O : M2) : va_W := ([] : List Nat).filterMap (fun i => (wLL g ad L O)[i]?)
theorem sR_LL_LL_0_13 (g : Gl) (ad : Nat → Nat) (L : M2) (O : M2) : ([] : List Nat).map (fun i => (wLL g ad L O)[i]?) = (wr_LL_LL_0_13 g ad L O).map some := rfl
theorem sP_LL_LL_0_13 (g : Gl) (ad : Nat → Nat) (L : M2) (O : M2) (L_n : M2) (O_n : M2) : ([0, 1, 2, 3, 4, 5, 6, 7, 8, 9, 10, 11, 12, 13] : List Nat).map (fun i => (wr_LL_LL_0_13 g ad L O ++ wLL g ad L_n O_n)[i]?) = (wLL g ad L_n O_n).map some := rfl
theorem nC_LL_LL_0_13 : va_nd [0, 1, 2, 3, 4, 5, 6, 7, 8, 9, 10, 11, 12, 13] = true := by decide
theorem nR_LL_LL_0_13 : va_nd [] = true := by decide
theorem nP_LL_LL_0_13 : va_nd [0, 1, 2, 3, 4, 5, 6, 7, 8, 9, 10, 11, 12, 13] = true := by decide
theorem dj_LL_LL_0_13 : ∀ i ∈ ([] : List Nat), i ∉ ([0, 1, 2, 3, 4, 5, 6, 7, 8, 9, 10, 11, 12, 13] : List Nat) := by decide
-- T in T
theorem sC_T_T_0_1 (g : Gl) (ad : Nat → Nat) (T : M2) : ([0, 1] : List Nat).map (fun i => (wT g ad T)[i]?) = (wT g ad T).map some := rfl
def wr_T_T_0_1 (g : Gl) (ad : Nat → Nat) (T : M2) : va_W := ([] : List Nat).filterMap (fun i => (wT g ad T)[i]?)
theorem sR_T_T_0_1 (g : Gl) (ad : Nat → Nat) (T : M2) : ([] : List Nat).map (fun i => (wT g ad T)[i]?) = (wr_T_T_0_1 g ad T).map some := rfl
theorem sP_T_T_0_1 (g : Gl) (ad : Nat → Nat) (T : M2) (T_n : M2) : ([0, 1] : List Nat).map (fun i => (wr_T_T_0_1 g ad T ++ wT g ad T_n)[i]?) = (wT g ad T_n).map some := rfl
theorem nC_T_T_0_1 : va_nd [0, 1] = true := by decide
theorem nR_T_T_0_1 : va_nd [] = true := by decide
theorem nP_T_T_0_1 : va_nd [0, 1] = true := by decide
theorem dj_T_T_0_1 : ∀ i ∈ ([] : List Nat), i ∉ ([0, 1] : List Nat) := by decide
-- S in S
theorem sC_S_S_0_1 (g : Gl) (ad : Nat → Nat) (B : J1) (Z : M1) : ([0, 1] : List Nat).map (fun i => (wS g ad B Z)[i]?) = (wS g ad B Z).map some := rfl
def wr_S_S_0_1 (g : Gl) (ad : Nat → Nat) (B : J1) (Z : M1) : va_W := ([] : List Nat).filterMap (fun i => (wS g ad B Z)[i]?)
theorem sR_S_S_0_1 (g : Gl) (ad : Nat → Nat) (B : J1) (Z : M1) : ([] : List Nat).map (fun i => (wS g ad B Z)[i]?) = (wr_S_S_0_1 g ad B Z).map some := rfl
theorem sP_S_S_0_1 (g : Gl) (ad : Nat → Nat) (B : J1) (Z : M1) (B_n : J1) (Z_n : M1) : ([0, 1] : List Nat).map (fun i => (wr_S_S_0_1 g ad B Z ++ wS g ad B_n Z_n)[i]?) = (wS g ad B_n Z_n).map some := rfl
theorem nC_S_S_0_1 : va_nd [0, 1] = true := by decide
theorem nR_S_S_0_1 : va_nd [] = true := by decide
theorem nP_S_S_0_1 : va_nd [0, 1] = true := by decide
theorem dj_S_S_0_1 : ∀ i ∈ ([] : List Nat), i ∉ ([0, 1] : List Nat) := by decide
-- A in S
theorem sC_S_A_1_1 (g : Gl) (ad : Nat → Nat) (B : J1) (Z : M1) : ([1] : List Nat).map (fun i => (wS g ad B Z)[i]?) = (wA g (fun k => ad (1 + k)) B).map some := rfl
def wr_S_A_1_1 (g : Gl) (ad : Nat → Nat) (B : J1) (Z : M1) : va_W := ([0] : List Nat).filterMap (fun i => (wS g ad B Z)[i]?)
theorem sR_S_A_1_1 (g : Gl) (ad : Nat → Nat) (B : J1) (Z : M1) : ([0] : List Nat).map (fun i => (wS g ad B Z)[i]?) = (wr_S_A_1_1 g ad B Z).map some := rfl
theorem sP_S_A_1_1 (g : Gl) (ad : Nat → Nat) (B : J1) (Z : M1) (B_n : J1) : ([0, 1] : List Nat).map (fun i => (wr_S_A_1_1 g ad B Z ++ wA g (fun k => ad (1 + k)) B_n)[i]?) = (wS g ad B_n Z).map some := rfl
theorem nC_S_A_1_1 : va_nd [1] = true := by decide
theorem nR_S_A_1_1 : va_nd [0] = true := by decide
theorem nP_S_A_1_1 : va_nd [0, 1] = true := by decide
theorem dj_S_A_1_1 : ∀ i ∈ ([0] : List Nat), i ∉ ([1] : List Nat) := by decide
-- TL in TL
theorem sC_TL_TL_0_8 (g : Gl) (ad : Nat → Nat) (T : M2) (L : M2) : ([0, 1, 2, 3, 4, 5, 6, 7, 8] : List Nat).map (fun i => (wTL g ad T L)[i]?) = (wTL g ad T L).map some := rfl
def wr_TL_TL_0_8 (g : Gl) (ad : Nat → Nat) (T : M2) (L : M2) : va_W := ([] : List Nat).filterMap (fun i => (wTL g ad T L)[i]?)
theorem sR_TL_TL_0_8 (g : Gl) (ad : Nat → Nat) (T : M2) (L : M2) : ([] : List Nat).map (fun i => (wTL g ad T L)[i]?) = (wr_TL_TL_0_8 g ad T L).map some := rfl
theorem sP_TL_TL_0_8 (g : Gl) (ad : Nat → Nat) (T : M2) (L : M2) (T_n : M2) (L_n : M2) : ([0, 1, 2, 3, 4, 5, 6, 7, 8] : List Nat).map (fun i => (wr_TL_TL_0_8 g ad T L ++ wTL g ad T_n L_n)[i]?) = (wTL g ad T_n L_n).map some := rfl
theorem nC_TL_TL_0_8 : va_nd [0, 1, 2, 3, 4, 5, 6, 7, 8] = true := by decide
theorem nR_TL_TL_0_8 : va_nd [] = true := by decide
theorem nP_TL_TL_0_8 : va_nd [0, 1, 2, 3, 4, 5, 6, 7, 8] = true := by decide
theorem dj_TL_TL_0_8 : ∀ i ∈ ([] : List Nat), i ∉ ([0, 1, 2, 3, 4, 5, 6, 7, 8] : List Nat) := by decide
-- T in TL
theorem sC_TL_T_0_1 (g : Gl) (ad : Nat → Nat) (T : M2) (L : M2) : ([0, 1] : List Nat).map (fun i => (wTL g ad T L)[i]?) = (wT g (fun k => ad (0 + k)) T).map some := rfl
def wr_TL_T_0_1 (g : Gl) (ad : Nat → Nat) (T : M2) (L : M2) : va_W := ([2, 3, 4, 5, 6, 7, 8] : List Nat).filterMap (fun i => (wTL g ad T L)[i]?)
theorem sR_TL_T_0_1 (g : Gl) (ad : Nat → Nat) (T : M2) (L : M2) : ([2, 3, 4, 5, 6, 7, 8] : List Nat).map (fun i => (wTL g ad T L)[i]?) = (wr_TL_T_0_1 g ad T L).map some := rfl
theorem sP_TL_T_0_1 (g : Gl) (ad : Nat → Nat) (T : M2) (L : M2) (T_n : M2) : ([7, 8, 0, 1, 2, 3, 4, 5, 6] : List Nat).map (fun i => (wr_TL_T_0_1 g ad T L ++ wT g (fun k => ad (0 + k)) T_n)[i]?) = (wTL g ad T_n L).map some := rfl
theorem nC_TL_T_0_1 : va_nd [0, 1] = true := by decide
theorem nR_TL_T_0_1 : va_nd [2, 3, 4, 5, 6, 7, 8] = true := by decide
theorem nP_TL_T_0_1 : va_nd [7, 8, 0, 1, 2, 3, 4, 5, 6] = true := by decide
theorem dj_TL_T_0_1 : ∀ i ∈ ([2, 3, 4, 5, 6, 7, 8] : List Nat), i ∉ ([0, 1] : List Nat) := by decide
-- L in TL
theorem sC_TL_L_2_8 (g : Gl) (ad : Nat → Nat) (T : M2) (L : M2) : ([2, 3, 4, 5, 6, 7, 8] : List Nat).map (fun i => (wTL g ad T L)[i]?) = (wL g (fun k => ad (2 + k)) L).map some := rfl
def wr_TL_L_2_8 (g : Gl) (ad : Nat → Nat) (T : M2) (L : M2) : va_W := ([0, 1] : List Nat).filterMap (fun i => (wTL g ad T L)[i]?)
theorem sR_TL_L_2_8 (g : Gl) (ad : Nat → Nat) (T : M2) (L : M2) : ([0, 1] : List Nat).map (fun i => (wTL g ad T L)[i]?) = (wr_TL_L_2_8 g ad T L).map some := rfl
theorem sP_TL_L_2_8 (g : Gl) (ad : Nat → Nat) (T : M2) (L : M2) (L_n : M2) : ([0, 1, 2, 3, 4, 5, 6, 7, 8] : List Nat).map (fun i => (wr_TL_L_2_8 g ad T L ++ wL g (fun k => ad (2 + k)) L_n)[i]?) = (wTL g ad T L_n).map some := rfl
theorem nC_TL_L_2_8 : va_nd [2, 3, 4, 5, 6, 7, 8] = true := by decide
theorem nR_TL_L_2_8 : va_nd [0, 1] = true := by decide
theorem nP_TL_L_2_8 : va_nd [0, 1, 2, 3, 4, 5, 6, 7, 8] = true := by decide
theorem dj_TL_L_2_8 : ∀ i ∈ ([0, 1] : List Nat), i ∉ ([2, 3, 4, 5, 6, 7, 8] : List Nat) := by decide
-- M in M
theorem sC_M_M_0_11 (g : Gl) (ad : Nat → Nat) (G : M2) (J : J2) : ([0, 1, 2, 3, 4, 5, 6, 7, 8, 9, 10, 11] : List Nat).map (fun i => (wM g ad G J)[i]?) = (wM g ad G J).map some := rfl
def wr_M_M_0_11 (g : Gl) (ad : Nat → Nat) (G : M2) (J : J2) : va_W := ([] : List Nat).filterMap (fun i => (wM g ad G J)[i]?)
theorem sR_M_M_0_11 (g : Gl) (ad : Nat → Nat) (G : M2) (J : J2) : ([] : List Nat).map (fun i => (wM g ad G J)[i]?) = (wr_M_M_0_11 g ad G J).map some := rfl
theorem sP_M_M_0_11 (g : Gl) (ad : Nat → Nat) (G : M2) (J : J2) (G_n : M2) (J_n : J2) : ([0, 1, 2, 3, 4, 5, 6, 7, 8, 9, 10, 11] : List Nat).map (fun i => (wr_M_M_0_11 g ad G J ++ wM g ad G_n J_n)[i]?) = (wM g ad G_n J_n).map some := rfl
theorem nC_M_M_0_11 : va_nd [0, 1, 2, 3, 4, 5, 6, 7, 8, 9, 10, 11] = true := by decide
theorem nR_M_M_0_11 : va_nd [] = true := by decide
theorem nP_M_M_0_11 : va_nd [0, 1, 2, 3, 4, 5, 6, 7, 8, 9, 10, 11] = true := by decide
theorem dj_M_M_0_11 : ∀ i ∈ ([] : List Nat), i ∉ ([0, 1, 2, 3, 4, 5, 6, 7, 8, 9, 10, 11] : List Nat) := by decide
-- X in X
theorem sC_X_X_0_33 (g : Gl) (ad : Nat → Nat) (R1 : M2) (R2 : M2) (R3 : M2) (K : Int32) (T : M2) (SN : J2) (SZ : M2) (F : M1) : ([0, 1, 2, 3, 4, 5, 6, 7, 8, 9, 10, 11, 12, 13, 14, 15, 16, 17, 18, 19, 20, 21, 22, 23, 24, 25, 26, 27, 28, 29, 30, 31, 32, 33] : List Nat).map (fun i => (wX g ad R1 R2 R3 K T SN SZ F)[i]?) = (wX g ad R1 R2 R3 K T SN SZ F).map some := rfl
def wr_X_X_0_33 (g : Gl) (ad : Nat → Nat) (R1 : M2) (R2 : M2) (R3 : M2) (K : Int32) (T : M2) (SN : J2) (SZ : M2) (F : M1) : va_W := ([] : List Nat).filterMap (fun i => (wX g ad R1 R2 R3 K T SN SZ F)[i]?)
theorem sR_X_X_0_33 (g : Gl) (ad : Nat → Nat) (R1 : M2) (R2 : M2) (R3 : M2) (K : Int32) (T : M2) (SN : J2) (SZ : M2) (F : M1) : ([] : List Nat).map (fun i => (wX g ad R1 R2 R3 K T SN SZ F)[i]?) = (wr_X_X_0_33 g ad R1 R2 R3 K T SN SZ F).map some := rfl
theorem sP_X_X_0_33 (g : Gl) (ad : Nat → Nat) (R1 : M2) (R2 : M2) (R3 : M2) (K : Int32) (T : M2) (SN : J2) (SZ : M2) (F : M1) (R1_n : M2) (R2_n : M2) (R3_n : M2) (K_n : Int32) (T_n : M2) (SN_n : J2) (SZ_n : M2) (F_n : M1) : ([0, 1, 2, 3, 4, 5, 6, 7, 8, 9, 10, 11, 12, 13, 14, 15, 16, 17, 18, 19, 20, 21, 22, 23, 24, 25, 26, 27, 28, 29, 30, 31, 32, 33] : List Nat).map (fun i => (wr_X_X_0_33 g ad R1 R2 R3 K T SN SZ F ++ wX g ad R1_n R2_n R3_n K_n T_n SN_n SZ_n F_n)[i]?) = (wX g ad R1_n R2_n R3_n K_n T_n SN_n SZ_n F_n).map some := rfl
theorem nC_X_X_0_33 : va_nd [0, 1, 2, 3, 4, 5, 6, 7, 8, 9, 10, 11, 12, 13, 14, 15, 16, 17, 18, 19, 20, 21, 22, 23, 24, 25, 26, 27, 28, 29, 30, 31, 32, 33] = true := by decide
theorem nR_X_X_0_33 : va_nd [] = true := by decide
theorem nP_X_X_0_33 : va_nd [0, 1, 2, 3, 4, 5, 6, 7, 8, 9, 10, 11, 12, 13, 14, 15, 16, 17, 18, 19, 20, 21, 22, 23, 24, 25, 26, 27, 28, 29, 30, 31, 32, 33] = true := by decide
theorem dj_X_X_0_33 : ∀ i ∈ ([] : List Nat), i ∉ ([0, 1, 2, 3, 4, 5, 6, 7, 8, 9, 10, 11, 12, 13, 14, 15, 16, 17, 18, 19, 20, 21, 22, 23, 24, 25, 26, 27, 28, 29, 30, 31, 32, 33] : List Nat) := by decide
-- L in X
theorem sC_X_L_1_7 (g : Gl) (ad : Nat → Nat) (R1 : M2) (R2 : M2) (R3 : M2) (K : Int32) (T : M2) (SN : J2) (SZ : M2) (F : M1) : ([1, 2, 3, 4, 5, 6, 7] : List Nat).map (fun i => (wX g ad R1 R2 R3 K T SN SZ F)[i]?) = (wL g (fun k => ad (1 + k)) R1).map some := rfl
def wr_X_L_1_7 (g : Gl) (ad : Nat → Nat) (R1 : M2) (R2 : M2) (R3 : M2) (K : Int32) (T : M2) (SN : J2) (SZ : M2) (F : M1) : va_W := ([0, 8, 9, 10, 11, 12, 13, 14, 15, 16, 17, 18, 19, 20, 21, 22, 23, 24, 25, 26, 27, 28, 29, 30, 31, 32, 33] : List Nat).filterMap (fun i => (wX g ad R1 R2 R3 K T SN SZ F)[i]?)
theorem sR_X_L_1_7 (g : Gl) (ad : Nat → Nat) (R1 : M2) (R2 : M2) (R3 : M2) (K : Int32) (T : M2) (SN : J2) (SZ : M2) (F : M1) : ([0, 8, 9, 10, 11, 12, 13, 14, 15, 16, 17, 18, 19, 20, 21, 22, 23, 24, 25, 26, 27, 28, 29, 30, 31, 32, 33] : List Nat).map (fun i => (wX g ad R1 R2 R3 K T SN SZ F)[i]?) = (wr_X_L_1_7 g ad R1 R2 R3 K T SN SZ F).map some := rfl
theorem sP_X_L_1_7 (g : Gl) (ad : Nat → Nat) (R1 : M2) (R2 : M2) (R3 : M2) (K : Int32) (T : M2) (SN : J2) (SZ : M2) (F : M1) (R1_n : M2) : ([0, 27, 28, 29, 30, 31, 32, 33, 1, 2, 3, 4, 5, 6, 7, 8, 9, 10, 11, 12, 13, 14, 15, 16, 17, 18, 19, 20, 21, 22, 23, 24, 25, 26] : List Nat).map (fun i => (wr_X_L_1_7 g ad R1 R2 R3 K T SN SZ F ++ wL g (fun k => ad (1 + k)) R1_n)[i]?) = (wX g ad R1_n R2 R3 K T SN SZ F).map some := rfl
theorem nC_X_L_1_7 : va_nd [1, 2, 3, 4, 5, 6, 7] = true := by decide
theorem nR_X_L_1_7 : va_nd [0, 8, 9, 10, 11, 12, 13, 14, 15, 16, 17, 18, 19, 20, 21, 22, 23, 24, 25, 26, 27, 28, 29, 30, 31, 32, 33] = true := by decide
theorem nP_X_L_1_7 : va_nd [0, 27, 28, 29, 30, 31, 32, 33, 1, 2, 3, 4, 5, 6, 7, 8, 9, 10, 11, 12, 13, 14, 15, 16, 17, 18, 19, 20, 21, 22, 23, 24, 25, 26] = true := by decide
theorem dj_X_L_1_7 : ∀ i ∈ ([0, 8, 9, 10, 11, 12, 13, 14, 15, 16, 17, 18, 19, 20, 21, 22, 23, 24, 25, 26, 27, 28, 29, 30, 31, 32, 33] : List Nat), i ∉ ([1, 2, 3, 4, 5, 6, 7] : List Nat) := by decide
-- L in X
theorem sC_X_L_8_14 (g : Gl) (ad : Nat → Nat) (R1 : M2) (R2 : M2) (R3 : M2) (K : Int32) (T : M2) (SN : J2) (SZ : M2) (F : M1) : ([8, 9, 10, 11, 12, 13, 14] : List Nat).map (fun i => (wX g ad R1 R2 R3 K T SN SZ F)[i]?) = (wL g (fun k => ad (8 + k)) R2).map some := rfl
def wr_X_L_8_14 (g : Gl) (ad : Nat → Nat) (R1 : M2) (R2 : M2) (R3 : M2) (K : Int32) (T : M2) (SN : J2) (SZ : M2) (F : M1) : va_W := ([0, 1, 2, 3, 4, 5, 6, 7, 15, 16, 17, 18, 19, 20, 21, 22, 23, 24, 25, 26, 27, 28, 29, 30, 31, 32, 33] : List Nat).filterMap (fun i => (wX g ad R1 R2 R3 K T SN SZ F)[i]?)
theorem sR_X_L_8_14 (g : Gl) (ad : Nat → Nat) (R1 : M2) (R2 : M2) (R3 : M2) (K : Int32) (T : M2) (SN : J2) (SZ : M2) (F : M1) : ([0, 1, 2, 3, 4, 5, 6, 7, 15, 16, 17, 18, 19, 20, 21, 22, 23, 24, 25, 26, 27, 28, 29, 30, 31, 32, 33] : List Nat).map (fun i => (wX g ad R1 R2 R3 K T SN SZ F)[i]?) = (wr_X_L_8_14 g ad R1 R2 R3 K T SN SZ F).map some := rfl
theorem sP_X_L_8_14 (g : Gl) (ad : Nat → Nat) (R1 : M2) (R2 : M2) (R3 : M2) (K : Int32) (T : M2) (SN : J2) (SZ : M2) (F : M1) (R2_n : M2) : ([0, 1, 2, 3, 4, 5, 6, 7, 27, 28, 29, 30, 31, 32, 33, 8, 9, 10, 11, 12, 13, 14, 15, 16, 17, 18, 19, 20, 21, 22, 23, 24, 25, 26] : List Nat).map (fun i => (wr_X_L_8_14 g ad R1 R2 R3 K T SN SZ F ++ wL g (fun k => ad (8 + k)) R2_n)[i]?) = (wX g ad R1 R2_n R3 K T SN SZ F).map some := rfl
theorem nC_X_L_8_14 : va_nd [8, 9, 10, 11, 12, 13, 14] = true := by decide
theorem nR_X_L_8_14 : va_nd [0, 1, 2, 3, 4, 5, 6, 7, 15, 16, 17, 18, 19, 20, 21, 22, 23, 24, 25, 26, 27, 28, 29, 30, 31, 32, 33] = true := by decide
theorem nP_X_L_8_14 : va_nd [0, 1, 2, 3, 4, 5, 6, 7, 27, 28, 29, 30, 31, 32, 33, 8, 9, 10, 11, 12, 13, 14, 15, 16, 17, 18, 19, 20, 21, 22, 23, 24, 25, 26] = true := by decide
theorem dj_X_L_8_14 : ∀ i ∈ ([0, 1, 2, 3, 4, 5, 6, 7, 15, 16, 17, 18, 19, 20, 21, 22, 23, 24, 25, 26, 27, 28, 29, 30, 31, 32, 33] : List Nat), i ∉ ([8, 9, 10, 11, 12, 13, 14] : List Nat) := by decide
-- L in X
theorem sC_X_L_15_21 (g : Gl) (ad : Nat → Nat) (R1 : M2) (R2 : M2) (R3 : M2) (K : Int32) (T : M2) (SN : J2) (SZ : M2) (F : M1) : ([15, 16, 17, 18, 19, 20, 21] : List Nat).map (fun i => (wX g ad R1 R2 R3 K T SN SZ F)[i]?) = (wL g (fun k => ad (15 + k)) R3).map some := rfl
def wr_X_L_15_21 (g : Gl) (ad : Nat → Nat) (R1 : M2) (R2 : M2) (R3 : M2) (K : Int32) (T : M2) (SN : J2) (SZ : M2) (F : M1) : va_W := ([0, 1, 2, 3, 4, 5, 6, 7, 8, 9, 10, 11, 12, 13, 14, 22, 23, 24, 25, 26, 27, 28, 29, 30, 31, 32, 33] : List Nat).filterMap (fun i => (wX g ad R1 R2 R3 K T SN SZ F)[i]?)
theorem sR_X_L_15_21 (g : Gl) (ad : Nat → Nat) (R1 : M2) (R2 : M2) (R3 : M2) (K : Int32) (T : M2) (SN : J2) (SZ : M2) (F : M1) : ([0, 1, 2, 3, 4, 5, 6, 7, 8, 9, 10, 11, 12, 13, 14, 22, 23, 24, 25, 26, 27, 28, 29, 30, 31, 32, 33] : List Nat).map (fun i => (wX g ad R1 R2 R3 K T SN SZ F)[i]?) = (wr_X_L_15_21 g ad R1 R2 R3 K T SN SZ F).map some := rfl
theorem sP_X_L_15_21 (g : Gl) (ad : Nat → Nat) (R1 : M2) (R2 : M2) (R3 : M2) (K : Int32) (T : M2) (SN : J2) (SZ : M2) (F : M1) (R3_n : M2) : ([0, 1, 2, 3, 4, 5, 6, 7, 8, 9, 10, 11, 12, 13, 14, 27, 28, 29, 30, 31, 32, 33, 15, 16, 17, 18, 19, 20, 21, 22, 23, 24, 25, 26] : List Nat).map (fun i => (wr_X_L_15_21 g ad R1 R2 R3 K T SN SZ F ++ wL g (fun k => ad (15 + k)) R3_n)[i]?) = (wX g ad R1 R2 R3_n K T SN SZ F).map some := rfl
theorem nC_X_L_15_21 : va_nd [15, 16, 17, 18, 19, 20, 21] = true := by decide
theorem nR_X_L_15_21 : va_nd [0, 1, 2, 3, 4, 5, 6, 7, 8, 9, 10, 11, 12, 13, 14, 22, 23, 24, 25, 26, 27, 28, 29, 30, 31, 32, 33] = true := by decide
theorem nP_X_L_15_21 : va_nd [0, 1, 2, 3, 4, 5, 6, 7, 8, 9, 10, 11, 12, 13, 14, 27, 28, 29, 30, 31, 32, 33, 15, 16, 17, 18, 19, 20, 21, 22, 23, 24, 25, 26] = true := by decide
theorem dj_X_L_15_21 : ∀ i ∈ ([0, 1, 2, 3, 4, 5, 6, 7, 8, 9, 10, 11, 12, 13, 14, 22, 23, 24, 25, 26, 27, 28, 29, 30, 31, 32, 33] : List Nat), i ∉ ([15, 16, 17, 18, 19, 20, 21] : List Nat) := by decide
-- T in X
theorem sC_X_T_22_23 (g : Gl) (ad : Nat → Nat) (R1 : M2) (R2 : M2) (R3 : M2) (K : Int32) (T : M2) (SN : J2) (SZ : M2) (F : M1) : ([22, 23] : List Nat).map (fun i => (wX g ad R1 R2 R3 K T SN SZ F)[i]?) = (wT g (fun k => ad (22 + k)) T).map some := rfl
def wr_X_T_22_23 (g : Gl) (ad : Nat → Nat) (R1 : M2) (R2 : M2) (R3 : M2) (K : Int32) (T : M2) (SN : J2) (SZ : M2) (F : M1) : va_W := ([0, 1, 2, 3, 4, 5, 6, 7, 8, 9, 10, 11, 12, 13, 14, 15, 16, 17, 18, 19, 20, 21, 24, 25, 26, 27, 28, 29, 30, 31, 32, 33] : List Nat).filterMap (fun i => (wX g ad R1 R2 R3 K T SN SZ F)[i]?)
theorem sR_X_T_22_23 (g : Gl) (ad : Nat → Nat) (R1 : M2) (R2 : M2) (R3 : M2) (K : Int32) (T : M2) (SN : J2) (SZ : M2) (F : M1) : ([0, 1, 2, 3, 4, 5, 6, 7, 8, 9, 10, 11, 12, 13, 14, 15, 16, 17, 18, 19, 20, 21, 24, 25, 26, 27, 28, 29, 30, 31, 32, 33] : List Nat).map (fun i => (wX g ad R1 R2 R3 K T SN SZ F)[i]?) = (wr_X_T_22_23 g ad R1 R2 R3 K T SN SZ F).map some := rfl
theorem sP_X_T_22_23 (g : Gl) (ad : Nat → Nat) (R1 : M2) (R2 : M2) (R3 : M2) (K : Int32) (T : M2) (SN : J2) (SZ : M2) (F : M1) (T_n : M2) : ([0, 1, 2, 3, 4, 5, 6, 7, 8, 9, 10, 11, 12, 13, 14, 15, 16, 17, 18, 19, 20, 21, 32, 33, 22, 23, 24, 25, 26, 27, 28, 29, 30, 31] : List Nat).map (fun i => (wr_X_T_22_23 g ad R1 R2 R3 K T SN SZ F ++ wT g (fun k => ad (22 + k)) T_n)[i]?) = (wX g ad R1 R2 R3 K T_n SN SZ F).map some := rfl
theorem nC_X_T_22_23 : va_nd [22, 23] = true := by decide
theorem nR_X_T_22_23 : va_nd [0, 1, 2, 3, 4, 5, 6, 7, 8, 9, 10, 11, 12, 13, 14, 15, 16, 17, 18, 19, 20, 21, 24, 25, 26, 27, 28, 29, 30, 31, 32, 33] = true := by decide
theorem nP_X_T_22_23 : va_nd [0, 1, 2, 3, 4, 5, 6, 7, 8, 9, 10, 11, 12, 13, 14, 15, 16, 17, 18, 19, 20, 21, 32, 33, 22, 23, 24, 25, 26, 27, 28, 29, 30, 31] = true := by decide
theorem dj_X_T_22_23 : ∀ i ∈ ([0, 1, 2, 3, 4, 5, 6, 7, 8, 9, 10, 11, 12, 13, 14, 15, 16, 17, 18, 19, 20, 21, 24, 25, 26, 27, 28, 29, 30, 31, 32, 33] : List Nat), i ∉ ([22, 23] : List Nat) := by decide
-- TL in X
theorem sC_X_TL_22_14 (g : Gl) (ad : Nat → Nat) (R1 : M2) (R2 : M2) (R3 : M2) (K : Int32) (T : M2) (SN : J2) (SZ : M2) (F : M1) : ([22, 23, 8, 9, 10, 11, 12, 13, 14] : List Nat).map (fun i => (wX g ad R1 R2 R3 K T SN SZ F)[i]?) = (wTL g (fun k => ad (([22, 23, 8, 9, 10, 11, 12, 13, 14] : List Nat).getD k 0)) T R2).map some := rfl
def wr_X_TL_22_14 (g : Gl) (ad : Nat → Nat) (R1 : M2) (R2 : M2) (R3 : M2) (K : Int32) (T : M2) (SN : J2) (SZ : M2) (F : M1) : va_W := ([0, 1, 2, 3, 4, 5, 6, 7, 15, 16, 17, 18, 19, 20, 21, 24, 25, 26, 27, 28, 29, 30, 31, 32, 33] : List Nat).filterMap (fun i => (wX g ad R1 R2 R3 K T SN SZ F)[i]?)
theorem sR_X_TL_22_14 (g : Gl) (ad : Nat → Nat) (R1 : M2) (R2 : M2) (R3 : M2) (K : Int32) (T : M2) (SN : J2) (SZ : M2) (F : M1) : ([0, 1, 2, 3, 4, 5, 6, 7, 15, 16, 17, 18, 19, 20, 21, 24, 25, 26, 27, 28, 29, 30, 31, 32, 33] : List Nat).map (fun i => (wX g ad R1 R2 R3 K T SN SZ F)[i]?) = (wr_X_TL_22_14 g ad R1 R2 R3 K T SN SZ F).map some := rfl
theorem sP_X_TL_22_14 (g : Gl) (ad : Nat → Nat) (R1 : M2) (R2 : M2) (R3 : M2) (K : Int32) (T : M2) (SN : J2) (SZ : M2) (F : M1) (T_n : M2) (R2_n : M2) : ([0, 1, 2, 3, 4, 5, 6, 7, 27, 28, 29, 30, 31, 32, 33, 8, 9, 10, 11, 12, 13, 14, 25, 26, 15, 16, 17, 18, 19, 20, 21, 22, 23, 24] : List Nat).map (fun i => (wr_X_TL_22_14 g ad R1 R2 R3 K T SN SZ F ++ wTL g (fun k => ad (([22, 23, 8, 9, 10, 11, 12, 13, 14] : List Nat).getD k 0)) T_n R2_n)[i]?) = (wX g ad R1 R2_n R3 K T_n SN SZ F).map some := rfl
theorem nC_X_TL_22_14 : va_nd [22, 23, 8, 9, 10, 11, 12, 13, 14] = true := by decide
theorem nR_X_TL_22_14 : va_nd [0, 1, 2, 3, 4, 5, 6, 7, 15, 16, 17, 18, 19, 20, 21, 24, 25, 26, 27, 28, 29, 30, 31, 32, 33] = true := by decide
theorem nP_X_TL_22_14 : va_nd [0, 1, 2, 3, 4, 5, 6, 7, 27, 28, 29, 30, 31, 32, 33, 8, 9, 10, 11, 12, 13, 14, 25, 26, 15, 16, 17, 18, 19, 20, 21, 22, 23, 24] = true := by decide
theorem dj_X_TL_22_14 : ∀ i ∈ ([0, 1, 2, 3, 4, 5, 6, 7, 15, 16, 17, 18, 19, 20, 21, 24, 25, 26, 27, 28, 29, 30, 31, 32, 33] : List Nat), i ∉ ([22, 23, 8, 9, 10, 11, 12, 13, 14] : List Nat) := by decide
-- LL in X
theorem sC_X_LL_8_7 (g : Gl) (ad : Nat → Nat) (R1 : M2) (R2 : M2) (R3 : M2) (K : Int32) (T : M2) (SN : J2) (SZ : M2) (F : M1) : ([8, 9, 10, 11, 12, 13, 14, 1, 2, 3, 4, 5, 6, 7] : List Nat).map (fun i => (wX g ad R1 R2 R3 K T SN SZ F)[i]?) = (wLL g (fun k => ad (([8, 9, 10, 11, 12, 13, 14, 1, 2, 3, 4, 5, 6, 7] : List Nat).getD k 0)) R2 R1).map some := rfl
def wr_X_LL_8_7 (g : Gl) (ad : Nat → Nat) (R1 : M2) (R2 : M2) (R3 : M2) (K : Int32) (T : M2) (SN : J2) (SZ : M2) (F : M1) : va_W := ([0, 15, 16, 17, 18, 19, 20, 21, 22, 23, 24, 25, 26, 27, 28, 29, 30, 31, 32, 33] : List Nat).filterMap (fun i => (wX g ad R1 R2 R3 K T SN SZ F)[i]?)
theorem sR_X_LL_8_7 (g : Gl) (ad : Nat → Nat) (R1 : M2) (R2 : M2) (R3 : M2) (K : Int32) (T : M2) (SN : J2) (SZ : M2) (F : M1) : ([0, 15, 16, 17, 18, 19, 20, 21, 22, 23, 24, 25, 26, 27, 28, 29, 30, 31, 32, 33] : List Nat).map (fun i => (wX g ad R1 R2 R3 K T SN SZ F)[i]?) = (wr_X_LL_8_7 g ad R1 R2 R3 K T SN SZ F).map some := rfl
theorem sP_X_LL_8_7 (g : Gl) (ad : Nat → Nat) (R1 : M2) (R2 : M2) (R3 : M2) (K : Int32) (T : M2) (SN : J2) (SZ : M2) (F : M1) (R2_n : M2) (R1_n : M2) : ([0, 27, 28, 29, 30, 31, 32, 33, 20, 21, 22, 23, 24, 25, 26, 1, 2, 3, 4, 5, 6, 7, 8, 9, 10, 11, 12, 13, 14, 15, 16, 17, 18, 19] : List Nat).map (fun i => (wr_X_LL_8_7 g ad R1 R2 R3 K T SN SZ F ++ wLL g (fun k => ad (([8, 9, 10, 11, 12, 13, 14, 1, 2, 3, 4, 5, 6, 7] : List Nat).getD k 0)) R2_n R1_n)[i]?) = (wX g ad R1_n R2_n R3 K T SN SZ F).map some := rfl
theorem nC_X_LL_8_7 : va_nd [8, 9, 10, 11, 12, 13, 14, 1, 2, 3, 4, 5, 6, 7] = true := by decide
theorem nR_X_LL_8_7 : va_nd [0, 15, 16, 17, 18, 19, 20, 21, 22, 23, 24, 25, 26, 27, 28, 29, 30, 31, 32, 33] = true := by decide
theorem nP_X_LL_8_7 : va_nd [0, 27, 28, 29, 30, 31, 32, 33, 20, 21, 22, 23, 24, 25, 26, 1, 2, 3, 4, 5, 6, 7, 8, 9, 10, 11, 12, 13, 14, 15, 16, 17, 18, 19] = true := by decide
theorem dj_X_LL_8_7 : ∀ i ∈ ([0, 15, 16, 17, 18, 19, 20, 21, 22, 23, 24, 25, 26, 27, 28, 29, 30, 31, 32, 33] : List Nat), i ∉ ([8, 9, 10, 11, 12, 13, 14, 1, 2, 3, 4, 5, 6, 7] : List Nat) := by decide
-- LL in X
theorem sC_X_LL_15_7 (g : Gl) (ad : Nat → Nat) (R1 : M2) (R2 : M2) (R3 : M2) (K : Int32) (T : M2) (SN : J2) (SZ : M2) (F : M1) : ([15, 16, 17, 18, 19, 20, 21, 1, 2, 3, 4, 5, 6, 7] : List Nat).map (fun i => (wX g ad R1 R2 R3 K T SN SZ F)[i]?) = (wLL g (fun k => ad (([15, 16, 17, 18, 19, 20, 21, 1, 2, 3, 4, 5, 6, 7] : List Nat).getD k 0)) R3 R1).map some := rfl
def wr_X_LL_15_7 (g : Gl) (ad : Nat → Nat) (R1 : M2) (R2 : M2) (R3 : M2) (K : Int32) (T : M2) (SN : J2) (SZ : M2) (F : M1) : va_W := ([0, 8, 9, 10, 11, 12, 13, 14, 22, 23, 24, 25, 26, 27, 28, 29, 30, 31, 32, 33] : List Nat).filterMap (fun i => (wX g ad R1 R2 R3 K T SN SZ F)[i]?)
theorem sR_X_LL_15_7 (g : Gl) (ad : Nat → Nat) (R1 : M2) (R2 : M2) (R3 : M2) (K : Int32) (T : M2) (SN : J2) (SZ : M2) (F : M1) : ([0, 8, 9, 10, 11, 12, 13, 14, 22, 23, 24, 25, 26, 27, 28, 29, 30, 31, 32, 33] : List Nat).map (fun i => (wX g ad R1 R2 R3 K T SN SZ F)[i]?) = (wr_X_LL_15_7 g ad R1 R2 R3 K T SN SZ F).map some := rfl
theorem sP_X_LL_15_7 (g : Gl) (ad : Nat → Nat) (R1 : M2) (R2 : M2) (R3 : M2) (K : Int32) (T : M2) (SN : J2) (SZ : M2) (F : M1) (R3_n : M2) (R1_n : M2) : ([0, 27, 28, 29, 30, 31, 32, 33, 1, 2, 3, 4, 5, 6, 7, 20, 21, 22, 23, 24, 25, 26, 8, 9, 10, 11, 12, 13, 14, 15, 16, 17, 18, 19] : List Nat).map (fun i => (wr_X_LL_15_7 g ad R1 R2 R3 K T SN SZ F ++ wLL g (fun k => ad (([15, 16, 17, 18, 19, 20, 21, 1, 2, 3, 4, 5, 6, 7] : List Nat).getD k 0)) R3_n R1_n)[i]?) = (wX g ad R1_n R2 R3_n K T SN SZ F).map some := rfl
theorem nC_X_LL_15_7 : va_nd [15, 16, 17, 18, 19, 20, 21, 1, 2, 3, 4, 5, 6, 7] = true := by decide
theorem nR_X_LL_15_7 : va_nd [0, 8, 9, 10, 11, 12, 13, 14, 22, 23, 24, 25, 26, 27, 28, 29, 30, 31, 32, 33] = true := by decide
theorem nP_X_LL_15_7 : va_nd [0, 27, 28, 29, 30, 31, 32, 33, 1, 2, 3, 4, 5, 6, 7, 20, 21, 22, 23, 24, 25, 26, 8, 9, 10, 11, 12, 13, 14, 15, 16, 17, 18, 19] = true := by decide
theorem dj_X_LL_15_7 : ∀ i ∈ ([0, 8, 9, 10, 11, 12, 13, 14, 22, 23, 24, 25, 26, 27, 28, 29, 30, 31, 32, 33] : List Nat), i ∉ ([15, 16, 17, 18, 19, 20, 21, 1, 2, 3, 4, 5, 6, 7] : List Nat) := by decide
-- LL in X
theorem sC_X_LL_1_21 (g : Gl) (ad : Nat → Nat) (R1 : M2) (R2 : M2) (R3 : M2) (K : Int32) (T : M2) (SN : J2) (SZ : M2) (F : M1) : ([1, 2, 3, 4, 5, 6, 7, 15, 16, 17, 18, 19, 20, 21] : List Nat).map (fun i => (wX g ad R1 R2 R3 K T SN SZ F)[i]?) = (wLL g (fun k => ad (([1, 2, 3, 4, 5, 6, 7, 15, 16, 17, 18, 19, 20, 21] : List Nat).getD k 0)) R1 R3).map some := rfl
def wr_X_LL_1_21 (g : Gl) (ad : Nat → Nat) (R1 : M2) (R2 : M2) (R3 : M2) (K : Int32) (T : M2) (SN : J2) (SZ : M2) (F : M1) : va_W := ([0, 8, 9, 10, 11, 12, 13, 14, 22, 23, 24, 25, 26, 27, 28, 29, 30, 31, 32, 33] : List Nat).filterMap (fun i => (wX g ad R1 R2 R3 K T SN SZ F)[i]?)
theorem sR_X_LL_1_21 (g : Gl) (ad : Nat → Nat) (R1 : M2) (R2 : M2) (R3 : M2) (K : Int32) (T : M2) (SN : J2) (SZ : M2) (F : M1) : ([0, 8, 9, 10, 11, 12, 13, 14, 22, 23, 24, 25, 26, 27, 28, 29, 30, 31, 32, 33] : List Nat).map (fun i => (wX g ad R1 R2 R3 K T SN SZ F)[i]?) = (wr_X_LL_1_21 g ad R1 R2 R3 K T SN SZ F).map some := rfl
theorem sP_X_LL_1_21 (g : Gl) (ad : Nat → Nat) (R1 : M2) (R2 : M2) (R3 : M2) (K : Int32) (T : M2) (SN : J2) (SZ : M2) (F : M1) (R1_n : M2) (R3_n : M2) : ([0, 20, 21, 22, 23, 24, 25, 26, 1, 2, 3, 4, 5, 6, 7, 27, 28, 29, 30, 31, 32, 33, 8, 9, 10, 11, 12, 13, 14, 15, 16, 17, 18, 19] : List Nat).map (fun i => (wr_X_LL_1_21 g ad R1 R2 R3 K T SN SZ F ++ wLL g (fun k => ad (([1, 2, 3, 4, 5, 6, 7, 15, 16, 17, 18, 19, 20, 21] : List Nat).getD k 0)) R1_n R3_n)[i]?) = (wX g ad R1_n R2 R3_n K T SN SZ F).map some := rfl
theorem nC_X_LL_1_21 : va_nd [1, 2, 3, 4, 5, 6, 7, 15, 16, 17, 18, 19, 20, 21] = true := by decide
theorem nR_X_LL_1_21 : va_nd [0, 8, 9, 10, 11, 12, 13, 14, 22, 23, 24, 25, 26, 27, 28, 29, 30, 31, 32, 33] = true := by decide
theorem nP_X_LL_1_21 : va_nd [0, 20, 21, 22, 23, 24, 25, 26, 1, 2, 3, 4, 5, 6, 7, 27, 28, 29, 30, 31, 32, 33, 8, 9, 10, 11, 12, 13, 14, 15, 16, 17, 18, 19] = true := by decide
theorem dj_X_LL_1_21 : ∀ i ∈ ([0, 8, 9, 10, 11, 12, 13, 14, 22, 23, 24, 25, 26, 27, 28, 29, 30, 31, 32, 33] : List Nat), i ∉ ([1, 2, 3, 4, 5, 6, 7, 15, 16, 17, 18, 19, 20, 21] : List Nat) := by decide
-- LL in X
theorem sC_X_LL_1_14 (g : Gl) (ad : Nat → Nat) (R1 : M2) (R2 : M2) (R3 : M2) (K : Int32) (T : M2) (SN : J2) (SZ : M2) (F : M1) : ([1, 2, 3, 4, 5, 6, 7, 8, 9, 10, 11, 12, 13, 14] : List Nat).map (fun i => (wX g ad R1 R2 R3 K T SN SZ F)[i]?) = (wLL g (fun k => ad (1 + k)) R1 R2).map some := rfl
def wr_X_LL_1_14 (g : Gl) (ad : Nat → Nat) (R1 : M2) (R2 : M2) (R3 : M2) (K : Int32) (T : M2) (SN : J2) (SZ : M2) (F : M1) : va_W := ([0, 15, 16, 17, 18, 19, 20, 21, 22, 23, 24, 25, 26, 27, 28, 29, 30, 31, 32, 33] : List Nat).filterMap (fun i => (wX g ad R1 R2 R3 K T SN SZ F)[i]?)
theorem sR_X_LL_1_14 (g : Gl) (ad : Nat → Nat) (R1 : M2) (R2 : M2) (R3 : M2) (K : Int32) (T : M2) (SN : J2) (SZ : M2) (F : M1) : ([0, 15, 16, 17, 18, 19, 20, 21, 22, 23, 24, 25, 26, 27, 28, 29, 30, 31, 32, 33] : List Nat).map (fun i => (wX g ad R1 R2 R3 K T SN SZ F)[i]?) = (wr_X_LL_1_14 g ad R1 R2 R3 K T SN SZ F).map some := rfl
theorem sP_X_LL_1_14 (g : Gl) (ad : Nat → Nat) (R1 : M2) (R2 : M2) (R3 : M2) (K : Int32) (T : M2) (SN : J2) (SZ : M2) (F : M1) (R1_n : M2) (R2_n : M2) : ([0, 20, 21, 22, 23, 24, 25, 26, 27, 28, 29, 30, 31, 32, 33, 1, 2, 3, 4, 5, 6, 7, 8, 9, 10, 11, 12, 13, 14, 15, 16, 17, 18, 19] : List Nat).map (fun i => (wr_X_LL_1_14 g ad R1 R2 R3 K T SN SZ F ++ wLL g (fun k => ad (1 + k)) R1_n R2_n)[i]?) = (wX g ad R1_n R2_n R3 K T SN SZ F).map some := rfl
theorem nC_X_LL_1_14 : va_nd [1, 2, 3, 4, 5, 6, 7, 8, 9, 10, 11, 12, 13, 14] = true := by decide
theorem nR_X_LL_1_14 : va_nd [0, 15, 16, 17, 18, 19, 20, 21, 22, 23, 24, 25, 26, 27, 28, 29, 30, 31, 32, 33] = true := by decide
theorem nP_X_LL_1_14 : va_nd [0, 20, 21, 22, 23, 24, 25, 26, 27, 28, 29, 30, 31, 32, 33, 1, 2, 3, 4, 5, 6, 7, 8, 9, 10, 11, 12, 13, 14, 15, 16, 17, 18, 19] = true := by decide
theorem dj_X_LL_1_14 : ∀ i ∈ ([0, 15, 16, 17, 18, 19, 20, 21, 22, 23, 24, 25, 26, 27, 28, 29, 30, 31, 32, 33] : List Nat), i ∉ ([1, 2, 3, 4, 5, 6, 7, 8, 9, 10, 11, 12, 13, 14] : List Nat) := by decide
