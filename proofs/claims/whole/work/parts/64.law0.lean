def R_law : String := "ReliefGalesLaw"
def lw_P (b : Addr) (xs : List Int32) (args : Array Value) (s : State) : Prop := args = #[.ref b] ∧ s.IntsAt b xs ∧ xs.length ≤ 3072 ∧ (Jvm.Cond.and given_1 narrow_1).before args s = true
def lw_Q (_ : Array Value) (s : State) (o : Outcome) (t : State) : Prop := o = .returned (some (.int 1)) ∧ Framed s o t [] 600000 7302250
def lw_Z (below : List Frame) (a : Array Value) (s : State) : State → Prop := fun t => ∃ o, t.status = .running ∧ Ended t below o ∧ lw_Q a s o t
/-- the law's own end, with 1 on the stack, nothing written that was there before, its room as the claim has it -/
theorem lw_ret {p : Program} {l : Launch} {e : Env} {s : State} {m : MethodId} {below : List Frame} {meth : Method} {c : Code} {b : Nat} (hx : p.tables.exec = Jvm.exec) (hb : c.code = code) (hr : meth.sig.returnType = ret) (hlocks : meth.locks = false) {pc : Nat} {H : Heap} {ls : Array Slot} (hdg : decode code pc = .ok (.ireturn, 1)) : W p l e room_1 s m #[Value.ref b] below meth c H [] 600000 7302250 (lw_Z below #[Value.ref b] s) (F0 m pc ls [.int 1]) := by
  intro T hT X
  obtain ⟨fs, hret, hrun, hended, hW, hframe⟩ := X.leave (v := some (.int 1)) (hlocks := hlocks) (fun h => by rw [hr] at h; cases h)
  have hmeth' : T.vm.method? m = some meth := X.method'
  refine ⟨T.setFrames fs, ?_, .returned (some (.int 1)), hrun, hended, rfl, ⟨_, rfl⟩, hW, hframe⟩
  jvm_step X.here [X.here.top, hx, hb, hdg, hmeth', hr, ret, narrow_b1]
  (try refine ⟨rfl, ?_⟩); (try refine ⟨rfl, ?_⟩)
  first | (intro acts; rw [hret _ acts rfl rfl rfl]) | rw [hret _ _ rfl rfl rfl]
  exact Steps.refl _
/-- what holds at the law's entry: the machine, the code, the tables' words (any of lw_tbl by 'hts w (by decide +kernel)'), the script of L ints xs at the cell b, what the Statement gives of the start (any of its parts by flat_of_before) -/
def lw_At (p : Program) (s : State) (m : MethodId) (meth : Method) (c : Code) (b L : Nat) (xs : Nat → Int32) : Prop :=
  p.tables.exec = Jvm.exec ∧ c.code = code ∧ meth.sig.returnType = ret ∧ c.maxLocals = 4 ∧ s.vm.findClass R_law = some m.cls ∧ (∀ w ∈ lw_tbl, w.before #[Value.ref b] s = true) ∧ va_X b L xs s s.heap ∧ b < s.heap.size ∧ meth.locks = false ∧ (Jvm.Cond.and given_1 narrow_1).before #[Value.ref b] s = true
abbrev wXM (g : Gl) (ax am : Nat → Nat) (R1 R2 R3 : M2) (K : Int32) (T : M2) (SN : J2) (SZ : M2) (F : M1) (G : M2) (J : J2) : va_W := wX g ax R1 R2 R3 K T SN SZ F ++ wM g am G J
set_option maxRecDepth 100000 in
theorem sC_XM_X (g : Gl) (ax am : Nat → Nat) (R1 R2 R3 : M2) (K : Int32) (T : M2) (SN : J2) (SZ : M2) (F : M1) (G : M2) (J : J2) : ([0, 1, 2, 3, 4, 5, 6, 7, 8, 9, 10, 11, 12, 13, 14, 15, 16, 17, 18, 19, 20, 21, 22, 23, 24, 25, 26, 27, 28, 29, 30, 31, 32, 33] : List Nat).map (fun i => (wXM g ax am R1 R2 R3 K T SN SZ F G J)[i]?) = (wX g ax R1 R2 R3 K T SN SZ F).map some := rfl
set_option maxRecDepth 100000 in
theorem sR_XM_X (g : Gl) (ax am : Nat → Nat) (R1 R2 R3 : M2) (K : Int32) (T : M2) (SN : J2) (SZ : M2) (F : M1) (G : M2) (J : J2) : ([34, 35, 36, 37, 38, 39, 40, 41, 42, 43, 44, 45] : List Nat).map (fun i => (wXM g ax am R1 R2 R3 K T SN SZ F G J)[i]?) = (wM g am G J).map some := rfl
set_option maxRecDepth 100000 in
theorem sP_XM_X (g : Gl) (ax am : Nat → Nat) (R1 R2 R3 : M2) (K : Int32) (T : M2) (SN : J2) (SZ : M2) (F : M1) (G : M2) (J : J2) (R1' R2' R3' : M2) (K' : Int32) (T' : M2) (SN' : J2) (SZ' : M2) (F' : M1) : ([12, 13, 14, 15, 16, 17, 18, 19, 20, 21, 22, 23, 24, 25, 26, 27, 28, 29, 30, 31, 32, 33, 34, 35, 36, 37, 38, 39, 40, 41, 42, 43, 44, 45, 0, 1, 2, 3, 4, 5, 6, 7, 8, 9, 10, 11] : List Nat).map (fun i => (wM g am G J ++ wX g ax R1' R2' R3' K' T' SN' SZ' F')[i]?) = (wXM g ax am R1' R2' R3' K' T' SN' SZ' F' G J).map some := rfl
set_option maxRecDepth 100000 in
theorem sC_XM_M (g : Gl) (ax am : Nat → Nat) (R1 R2 R3 : M2) (K : Int32) (T : M2) (SN : J2) (SZ : M2) (F : M1) (G : M2) (J : J2) : ([34, 35, 36, 37, 38, 39, 40, 41, 42, 43, 44, 45] : List Nat).map (fun i => (wXM g ax am R1 R2 R3 K T SN SZ F G J)[i]?) = (wM g am G J).map some := rfl
set_option maxRecDepth 100000 in
theorem sR_XM_M (g : Gl) (ax am : Nat → Nat) (R1 R2 R3 : M2) (K : Int32) (T : M2) (SN : J2) (SZ : M2) (F : M1) (G : M2) (J : J2) : ([0, 1, 2, 3, 4, 5, 6, 7, 8, 9, 10, 11, 12, 13, 14, 15, 16, 17, 18, 19, 20, 21, 22, 23, 24, 25, 26, 27, 28, 29, 30, 31, 32, 33] : List Nat).map (fun i => (wXM g ax am R1 R2 R3 K T SN SZ F G J)[i]?) = (wX g ax R1 R2 R3 K T SN SZ F).map some := rfl
set_option maxRecDepth 100000 in
theorem sP_XM_M (g : Gl) (ax am : Nat → Nat) (R1 R2 R3 : M2) (K : Int32) (T : M2) (SN : J2) (SZ : M2) (F : M1) (G : M2) (J : J2) (G' : M2) (J' : J2) : ([0, 1, 2, 3, 4, 5, 6, 7, 8, 9, 10, 11, 12, 13, 14, 15, 16, 17, 18, 19, 20, 21, 22, 23, 24, 25, 26, 27, 28, 29, 30, 31, 32, 33, 34, 35, 36, 37, 38, 39, 40, 41, 42, 43, 44, 45] : List Nat).map (fun i => (wX g ax R1 R2 R3 K T SN SZ F ++ wM g am G' J')[i]?) = (wXM g ax am R1 R2 R3 K T SN SZ F G' J').map some := rfl
theorem nd_34 : va_nd [0, 1, 2, 3, 4, 5, 6, 7, 8, 9, 10, 11, 12, 13, 14, 15, 16, 17, 18, 19, 20, 21, 22, 23, 24, 25, 26, 27, 28, 29, 30, 31, 32, 33] = true := by decide
theorem nd_12 : va_nd [34, 35, 36, 37, 38, 39, 40, 41, 42, 43, 44, 45] = true := by decide
theorem nd_46 : va_nd [0, 1, 2, 3, 4, 5, 6, 7, 8, 9, 10, 11, 12, 13, 14, 15, 16, 17, 18, 19, 20, 21, 22, 23, 24, 25, 26, 27, 28, 29, 30, 31, 32, 33, 34, 35, 36, 37, 38, 39, 40, 41, 42, 43, 44, 45] = true := by decide
theorem nd_46p : va_nd [12, 13, 14, 15, 16, 17, 18, 19, 20, 21, 22, 23, 24, 25, 26, 27, 28, 29, 30, 31, 32, 33, 34, 35, 36, 37, 38, 39, 40, 41, 42, 43, 44, 45, 0, 1, 2, 3, 4, 5, 6, 7, 8, 9, 10, 11] = true := by decide
theorem dj_XM_X : ∀ i ∈ ([34, 35, 36, 37, 38, 39, 40, 41, 42, 43, 44, 45] : List Nat), i ∉ ([0, 1, 2, 3, 4, 5, 6, 7, 8, 9, 10, 11, 12, 13, 14, 15, 16, 17, 18, 19, 20, 21, 22, 23, 24, 25, 26, 27, 28, 29, 30, 31, 32, 33] : List Nat) := by decide
theorem dj_XM_M : ∀ i ∈ ([0, 1, 2, 3, 4, 5, 6, 7, 8, 9, 10, 11, 12, 13, 14, 15, 16, 17, 18, 19, 20, 21, 22, 23, 24, 25, 26, 27, 28, 29, 30, 31, 32, 33] : List Nat), i ∉ ([34, 35, 36, 37, 38, 39, 40, 41, 42, 43, 44, 45] : List Nat) := by decide
def aH (s : State) : Nat → Prop := fun q => s.heap.size ≤ q
/-- where the law stands: the machine, what nobody writes, the script, and room for one more call in it -/
def Lc (p : Program) (s : State) (m : MethodId) (meth : Method) (c : Code) (b L : Nat) (xs : Nat → Int32) (g : Gl) : Prop := Cx p s m #[Value.ref b] meth c cL_law 4 ret RL ∧ Ev g (aH s) s s.heap ∧ va_X b L xs s s.heap ∧ b < s.heap.size ∧ L ≤ 3072
abbrev Wl (p : Program) (l : Launch) (e : Env) (s : State) (m : MethodId) (below : List Frame) (meth : Method) (c : Code) (b : Nat) (H : Heap) (locs : List Loc) (f : JFrame) : Prop := W p l e room_1 s m #[Value.ref b] below meth c H locs 100 5000 (lw_Z below #[Value.ref b] s) f
/-- the law's loop may go on behind a call -/
def Kk (p : Program) (l : Launch) (e : Env) (s : State) (m : MethodId) (below : List Frame) (meth : Method) (c : Code) (b : Nat) (g : Gl) (ax am : Nat → Nat) (i pc : Nat) : Prop := ∀ (R1 R2 R3 : M2) (K : Int32) (T : M2) (SN : J2) (SZ : M2) (F : M1) (G : M2) (J : J2), Rel R1 R2 R3 K T SN SZ F G J → ∀ (H : Heap) (locs : List Loc) (ls : Array Slot), Hp g (aH s) s H locs (wXM g ax am R1 R2 R3 K T SN SZ F G J) → lv_has ls 4 [(0, .ref b), (1, .ref (ax 0)), (2, .ref (am 0)), (3, .int (nI i))] → Wl p l e s m below meth c b H locs (F0 m pc ls [])
section LA
variable {p : Program} {l : Launch} {e : Env} {s : State} {m : MethodId} {below : List Frame} {meth : Method} {c : Code} {b L : Nat} {xs : Nat → Int32} {g : Gl} {H : Heap} {locs : List Loc} {ws : va_W} {ls : Array Slot} {rest : List Value} {i : Nat} {ax am : Nat → Nat}
/-- an int of the script comes onto the stack -/
theorem lw_arg (hc : Lc p s m meth c b L xs g) (hH : Hp g (aH s) s H locs ws) (hl : lv_has ls 4 [(0, .ref b), (1, .ref (ax 0)), (2, .ref (am 0)), (3, .int (nI i))]) {pc : Nat} (k : Nat) (hk : i + k < L) (hk5 : Int32.ofInt (k : Int) = nI k) (d0 : decode cL_law pc = .ok (.aload_n 0, 1)) (d1 : decode cL_law (pc + 1) = .ok (.iload_n 3, 1)) (d2 : decode cL_law (pc + 2) = .ok (.iconst (k : Int), 1)) (d3 : decode cL_law (pc + 3) = .ok (.iadd, 1)) (d4 : decode cL_law (pc + 4) = .ok (.iaload, 1))
    (kk : Wl p l e s m below meth c b H locs (F0 m (pc + 5) ls (.int (xs (i + k)) :: rest))) : Wl p l e s m below meth c b H locs (F0 m pc ls rest) := by
  obtain ⟨C, hE, hX, hbl, hL⟩ := hc
  obtain ⟨hx, hb, hml, hown, hT, hr, hlk⟩ := id C
  have hbA : ¬ aH s b := Nat.not_le.mpr hbl
  refine lv_aload_n hx hb d0 rfl (lv_at hl 0 rfl) ?_
  refine lv_iload_n hx hb d1 rfl (lv_at hl 3 rfl) ?_
  refine lv_iconst (v := nI k) hx hb d2 hk5 ?_
  refine lv_iadd hx hb d3 ?_
  rw [n_add]
  refine va_sld hx hb hX hbl hbA hH.2.2 (inb_in (n_inb (by omega) hk)) d4 ?_
  rw [n_cl (by omega)]
  exact kk
end LA
