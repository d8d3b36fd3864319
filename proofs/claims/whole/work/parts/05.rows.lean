theorem at_of_map {is : List Nat} {ws w : va_W} (h : is.map (fun i => ws[i]?) = w.map some) (k : Nat) (q : Nat × va_E) (hq : w[k]? = some q) : ∃ i : Nat, ws[i]? = some q := by
  have h1 : (is.map (fun i => ws[i]?))[k]? = some (some q) := by rw [h, List.getElem?_map, hq]; rfl
  rw [List.getElem?_map] at h1
  cases hi : is[k]? with
  | none => rw [hi] at h1; cases h1
  | some i => rw [hi] at h1; exact ⟨i, Option.some.inj h1⟩
theorem P_map {D : va_G} {ws w : va_W} {H : Heap} (hP : va_P D vwCl ws H) {is : List Nat} (h : is.map (fun i => ws[i]?) = w.map some) : va_P D vwCl w H := fun k q hq => by
  obtain ⟨i, hi⟩ := at_of_map h k q hq
  exact hP i q hi
section XR
variable {p : Program} {l : Launch} {e : Env} {R : Room} {s : State} {m : MethodId} {args : Array Value} {below : List Frame} {meth : Method} {c : Code} {H : Heap} {locs : List Loc} {cells slots : Nat} {Q : State → Prop}
variable {cc : ByteArray} {nL pc : Nat} {ret : Option FieldType} {own : String} {ls : Array Slot} {rest : List Value} {g : Gl} {A : Nat → Prop} {ws : va_W} {a : Nat}
theorem xget (C : Cx p s m args meth c cc nL ret own) (hE : Ev g A s s.heap) (hH : Hp g A s H locs ws) (q0 : Nat) {ci index : Nat} {fs : List Value} {cls ref : String} {T : u_T} {N : Nat} (he : ws[q0]? = some (a, .inr (ci, fs))) (hc : vwCl[ci]? = some (cls, T, N)) (hin : ∀ w ∈ u_ws cls T N, w ∈ wsL_law) (k : Nat) (hk : k < N) (hlink : Cond.fieldLink own index ref (T k).2.1 (T k).2.2.1 ∈ wsL_law) (hsame : (T k).1 = ref) {v : Value} (hv : fs[k]? = some v) (hdg : decode cc pc = .ok (.getfield index, 3)) (kk : W p l e R s m args below meth c H locs cells slots Q (F0 m (pc + 3) ls (v :: rest))) : W p l e R s m args below meth c H locs cells slots Q (F0 m pc ls (.ref a :: rest)) :=
  va_get C.1 C.2.1 C.2.2.2.2.1 hin C.2.2.2.1 hE.1 hH.1 q0 he hc k hk (C.2.2.2.2.1 _ hlink) (fun x h => by rw [← hsame]; exact h) hv hdg kk
theorem xput (C : Cx p s m args meth c cc nL ret own) (hE : Ev g A s s.heap) (hH : Hp g A s H locs ws) (q0 : Nat) {ci index : Nat} {fs : List Value} {cls ref : String} {T : u_T} {N : Nat} (he : ws[q0]? = some (a, .inr (ci, fs))) (hc : vwCl[ci]? = some (cls, T, N)) (hin : ∀ w ∈ u_ws cls T N, w ∈ wsL_law) (ty0 : Nat → FieldType) (hty : ∀ k, k < N → parseFieldDescriptor (T k).2.2.1 = some (ty0 k)) (hnm : ∀ a, a < N → ∀ b, b < N → a ≠ b → (T a).2.1 ≠ (T b).2.1) (k : Nat) (hk : k < N) (hlink : Cond.fieldLink own index ref (T k).2.1 (T k).2.2.1 ∈ wsL_law) (hsame : (T k).1 = ref) (hfin : (T k).2.2.2 = false) {ty : FieldType} (hd : ty0 k = ty) {v : Value} (hn : narrow ty v = v) (hfit : fits ty v = true) (hl : k < fs.length)
    {μ : Type} (wf : μ → va_W) (x : μ) (hw : ws.set q0 (a, .inr (ci, fs.set k v)) = wf x) (hdg : decode cc pc = .ok (.putfield index, 3))
    (kk : ∀ x' : μ, x' = x → ∀ (H1 : Heap) (locs1 : List Loc), Hp g A s H1 locs1 (wf x') → W p l e R s m args below meth c H1 locs1 cells slots Q (F0 m (pc + 3) ls rest)) : W p l e R s m args below meth c H locs cells slots Q (F0 m pc ls (v :: .ref a :: rest)) :=
  va_put C.1 C.2.1 C.2.2.2.2.1 hin ty0 hty hnm C.2.2.2.1 hE.1 hH.1 hH.2.1 hH.2.2 q0 he hc k hk (C.2.2.2.2.1 _ hlink) (fun x h => by rw [← hsame]; exact h) hfin (by rw [hty k hk, hd]) hn hfit hl hdg (fun H1 locs1 h1 h2 h3 => by
    rw [hw] at h1 h2
    exact kk x rfl H1 locs1 ⟨h1, h2, h3⟩)
theorem xiald (C : Cx p s m args meth c cc nL ret own) (hE : Ev g A s s.heap) (hH : Hp g A s H locs ws) (q0 : Nat) {n : Nat} {f : Nat → Int32} (he : ws[q0]? = some (a, .inl (gI g, n, .inl f))) {i : Int32} (hin : inb i n = true) (hdg : decode cc pc = .ok (.iaload, 1)) (kk : W p l e R s m args below meth c H locs cells slots Q (F0 m (pc + 1) ls (.int (f i.toNatClampNeg) :: rest))) : W p l e R s m args below meth c H locs cells slots Q (F0 m pc ls (.int i :: .ref a :: rest)) :=
  va_iald C.1 C.2.1 hE.1 hH.1 q0 0 he rfl (inb_in hin) hdg kk
theorem xlald (C : Cx p s m args meth c cc nL ret own) (hE : Ev g A s s.heap) (hH : Hp g A s H locs ws) (q0 : Nat) {n : Nat} {f : Nat → Int64} (he : ws[q0]? = some (a, .inl (gJ g, n, .inr (.inl f)))) {i : Int32} (hin : inb i n = true) (hdg : decode cc pc = .ok (.laload, 1)) (kk : W p l e R s m args below meth c H locs cells slots Q (F0 m (pc + 1) ls (.long (f i.toNatClampNeg) :: rest))) : W p l e R s m args below meth c H locs cells slots Q (F0 m pc ls (.int i :: .ref a :: rest)) :=
  va_lald C.1 C.2.1 hE.1 hH.1 q0 1 he rfl (inb_in hin) hdg kk
theorem xiast (C : Cx p s m args meth c cc nL ret own) (hE : Ev g A s s.heap) (hH : Hp g A s H locs ws) (q0 : Nat) {n : Nat} {f : Nat → Int32} (he : ws[q0]? = some (a, .inl (gI g, n, .inl f))) {i v : Int32} (hin : inb i n = true) {μ : Type} (wf : μ → va_W) (x : μ) (hw : ws.set q0 (a, .inl (gI g, n, .inl (upd f i.toNatClampNeg v))) = wf x) (hdg : decode cc pc = .ok (.iastore, 1))
    (kk : ∀ x' : μ, x' = x → ∀ (H1 : Heap) (locs1 : List Loc), Hp g A s H1 locs1 (wf x') → W p l e R s m args below meth c H1 locs1 cells slots Q (F0 m (pc + 1) ls rest)) : W p l e R s m args below meth c H locs cells slots Q (F0 m pc ls (.int v :: .int i :: .ref a :: rest)) :=
  va_iast C.1 C.2.1 hE.1 hH.1 hH.2.1 hH.2.2 q0 0 he rfl (inb_in hin) hdg (fun H1 locs1 h1 h2 h3 => by
    rw [hw] at h1 h2
    exact kk x rfl H1 locs1 ⟨h1, h2, h3⟩)
theorem xlast (C : Cx p s m args meth c cc nL ret own) (hE : Ev g A s s.heap) (hH : Hp g A s H locs ws) (q0 : Nat) {n : Nat} {f : Nat → Int64} (he : ws[q0]? = some (a, .inl (gJ g, n, .inr (.inl f)))) {i : Int32} {v : Int64} (hin : inb i n = true) {μ : Type} (wf : μ → va_W) (x : μ) (hw : ws.set q0 (a, .inl (gJ g, n, .inr (.inl (vp_updL f i.toNatClampNeg v)))) = wf x) (hdg : decode cc pc = .ok (.lastore, 1))
    (kk : ∀ x' : μ, x' = x → ∀ (H1 : Heap) (locs1 : List Loc), Hp g A s H1 locs1 (wf x') → W p l e R s m args below meth c H1 locs1 cells slots Q (F0 m (pc + 1) ls rest)) : W p l e R s m args below meth c H locs cells slots Q (F0 m pc ls (.long v :: .int i :: .ref a :: rest)) :=
  va_last C.1 C.2.1 hE.1 hH.1 hH.2.1 hH.2.2 q0 1 he rfl (inb_in hin) hdg (fun H1 locs1 h1 h2 h3 => by
    rw [hw] at h1 h2
    exact kk x rfl H1 locs1 ⟨h1, h2, h3⟩)
theorem xalen (C : Cx p s m args meth c cc nL ret own) (hE : Ev g A s s.heap) (hH : Hp g A s H locs ws) (q0 t0 : Nat) {cA : ClassId} {x : vp_A} (he : ws[q0]? = some (a, .inl (cA, x))) {ty : FieldType} (ht : (gTy g)[t0]? = some (cA, ty)) {v : Int32} (hv : Int32.ofNat x.1 = v) (hdg : decode cc pc = .ok (.arraylength, 1)) (kk : W p l e R s m args below meth c H locs cells slots Q (F0 m (pc + 1) ls (.int v :: rest))) : W p l e R s m args below meth c H locs cells slots Q (F0 m pc ls (.ref a :: rest)) :=
  va_alen C.1 C.2.1 hE.1 hH.1 q0 t0 he ht hv hdg kk
def cpok (sp dp n : Int32) (n0 n1 : Nat) : Bool := decide (¬ sp < 0) && decide (¬ dp < 0) && decide (¬ n < 0) && decide (sp.toNatClampNeg + n.toNatClampNeg ≤ n0) && decide (dp.toNatClampNeg + n.toNatClampNeg ≤ n1)
theorem cpok_spec {sp dp n : Int32} {n0 n1 : Nat} (h : cpok sp dp n n0 n1 = true) : ¬ sp < 0 ∧ ¬ dp < 0 ∧ ¬ n < 0 ∧ sp.toNatClampNeg + n.toNatClampNeg ≤ n0 ∧ dp.toNatClampNeg + n.toNatClampNeg ≤ n1 := by
  unfold cpok at h
  simp only [Bool.and_eq_true, decide_eq_true_eq] at h
  exact ⟨h.1.1.1.1, h.1.1.1.2, h.1.1.2, h.1.2, h.2⟩
theorem xcopyi (C : Cx p s m args meth c cc nL ret own) (hE : Ev g A s s.heap) (hH : Hp g A s H locs ws) (hsz : ls.size = nL) {index : Nat} (hlink : Cond.methodLink own index arraycopyName ∈ wsL_law) (hnat : Cond.native arraycopyName ∈ wsL_law) (hstat : Cond.static arraycopyName ∈ wsL_law) (hini : Cond.initialized "java/lang/System" ∈ wsL_law) (q0 q1 : Nat) {a0 n0 n1 : Nat} {f f1 : Nat → Int32} (ha0 : ws[q0]? = some (a0, .inl (gI g, n0, .inl f))) (ha1 : ws[q1]? = some (a, .inl (gI g, n1, .inl f1))) {sp dp n : Int32} (hg : cpok sp dp n n0 n1 = true) (hframes : 1 ≤ R.frames) (hlocals : (rest.map fun v => v.category).sum + (nativeFrameWords "java/lang/System" "arraycopy" 5 + 11) ≤ R.locals)
    {μ : Type} (wf : μ → va_W) (x : μ) (hw : ws.set q1 (a, .inl (gI g, n1, .inl (va_cpy f f1 sp.toNatClampNeg dp.toNatClampNeg n.toNatClampNeg))) = wf x) (hdg : decode cc pc = .ok (.invokestatic index, 3))
    (kk : ∀ x' : μ, x' = x → ∀ (H1 : Heap) (locs1 : List Loc), Hp g A s H1 locs1 (wf x') → W p l e R s m args below meth c H1 locs1 cells slots Q (F0 m (pc + 3) ls rest)) : W p l e R s m args below meth c H locs cells slots Q (F0 m pc ls (.int n :: .int dp :: .ref a :: .int sp :: .ref a0 :: rest)) := by
  obtain ⟨h1, h2, h3, h4, h5⟩ := cpok_spec hg
  exact va_copyi C.1 C.2.1 (C.2.2.1.trans hsz.symm) C.2.2.2.1 (C.2.2.2.2.1 _ hlink) (C.2.2.2.2.1 _ hnat) (C.2.2.2.2.1 _ hstat) (C.2.2.2.2.1 _ hini) hE.1 hH.1 hH.2.1 hH.2.2 q0 q1 0 0 ha0 ha1 rfl rfl rfl h1 h2 h3 h4 h5 (fun _ _ => rfl) hframes hlocals hdg (fun H1 locs1 k1 k2 k3 => by
    rw [hw] at k1 k2
    exact kk x rfl H1 locs1 ⟨k1, k2, k3⟩)
theorem xcopyl (C : Cx p s m args meth c cc nL ret own) (hE : Ev g A s s.heap) (hH : Hp g A s H locs ws) (hsz : ls.size = nL) {index : Nat} (hlink : Cond.methodLink own index arraycopyName ∈ wsL_law) (hnat : Cond.native arraycopyName ∈ wsL_law) (hstat : Cond.static arraycopyName ∈ wsL_law) (hini : Cond.initialized "java/lang/System" ∈ wsL_law) (q0 q1 : Nat) {a0 n0 n1 : Nat} {f f1 : Nat → Int64} (ha0 : ws[q0]? = some (a0, .inl (gJ g, n0, .inr (.inl f)))) (ha1 : ws[q1]? = some (a, .inl (gJ g, n1, .inr (.inl f1)))) {sp dp n : Int32} (hg : cpok sp dp n n0 n1 = true) (hframes : 1 ≤ R.frames) (hlocals : (rest.map fun v => v.category).sum + (nativeFrameWords "java/lang/System" "arraycopy" 5 + 11) ≤ R.locals)
    {μ : Type} (wf : μ → va_W) (x : μ) (hw : ws.set q1 (a, .inl (gJ g, n1, .inr (.inl (va_cpy f f1 sp.toNatClampNeg dp.toNatClampNeg n.toNatClampNeg)))) = wf x) (hdg : decode cc pc = .ok (.invokestatic index, 3))
    (kk : ∀ x' : μ, x' = x → ∀ (H1 : Heap) (locs1 : List Loc), Hp g A s H1 locs1 (wf x') → W p l e R s m args below meth c H1 locs1 cells slots Q (F0 m (pc + 3) ls rest)) : W p l e R s m args below meth c H locs cells slots Q (F0 m pc ls (.int n :: .int dp :: .ref a :: .int sp :: .ref a0 :: rest)) := by
  obtain ⟨h1, h2, h3, h4, h5⟩ := cpok_spec hg
  exact va_copyl C.1 C.2.1 (C.2.2.1.trans hsz.symm) C.2.2.2.1 (C.2.2.2.2.1 _ hlink) (C.2.2.2.2.1 _ hnat) (C.2.2.2.2.1 _ hstat) (C.2.2.2.2.1 _ hini) hE.1 hH.1 hH.2.1 hH.2.2 q0 q1 1 1 ha0 ha1 rfl rfl rfl h1 h2 h3 h4 h5 (fun _ _ => rfl) hframes hlocals hdg (fun H1 locs1 k1 k2 k3 => by
    rw [hw] at k1 k2
    exact kk x rfl H1 locs1 ⟨k1, k2, k3⟩)
-- the texts
theorem str_recv (hE : Ev g A s s.heap) (hH : Hp g A s H locs ws) {i : Nat} (hi : i < nJS) : ∃ cell : Cell, H[g.2.2.1 i]? = some cell ∧ cell.vm.isStatics = false ∧ s.vm.findClass "java/lang/String" = some cell.cls := vk_recv hE.2.1.2.2.2.1 hi hH.2.2
-- ===== returns =====
theorem retPI {r : Int32} {ty : FieldType} (C : Cx p s m args meth c cc nL (some ty) own) (hn : narrow ty (.int r) = .int r) (hdg : decode cc pc = .ok (.ireturn, 1)) : W p l e R s m args below meth c s.heap [] 0 0 (MQ below (QcRead r) args s 0 0 (fun _ => False)) (F0 m pc ls [.int r]) :=
  W.zret C.1 C.2.1 C.2.2.2.2.2.1 hn (fun t ht _ => ⟨rfl, ht⟩) (fun q h => by cases h) hdg C.2.2.2.2.2.2
theorem retPV (C : Cx p s m args meth c cc nL none own) (hdg : decode cc pc = .ok (.return_, 1)) : W p l e R s m args below meth c s.heap [] 0 0 (MQ below QcReadV args s 0 0 (fun _ => False)) (F0 m pc ls []) :=
  W.vret C.1 C.2.1 C.2.2.2.2.2.1 (fun t ht _ => ⟨rfl, ht⟩) (fun q h => by cases h) hdg C.2.2.2.2.2.2
theorem retPJ {r : Int64} (C : Cx p s m args meth c cc nL (some .long) own) (hdg : decode cc pc = .ok (.lreturn, 1)) : W p l e R s m args below meth c s.heap [] 0 0 (MQ below (QcReadJ r) args s 0 0 (fun _ => False)) (F0 m pc ls [.long r]) :=
  W.lret C.1 C.2.1 C.2.2.2.2.2.1 (fun t ht _ => ⟨rfl, ht⟩) (fun q h => by cases h) hdg C.2.2.2.2.2.2
theorem retI {r : Int32} {w' : va_W} {ty : FieldType} (C : Cx p s m args meth c cc nL (some ty) own) (hH : Hp g A s H locs w') (hn : narrow ty (.int r) = .int r) (hdg : decode cc pc = .ok (.ireturn, 1)) : W p l e R s m args below meth c H locs 0 0 (MQ below (va_Qi (fun (r' : Int32) (_ : Unit) => r' = r) (fun _ t => Po g A w' t) A) args s 0 0 A) (F0 m pc ls [.int r]) :=
  W.zret C.1 C.2.1 C.2.2.2.2.2.1 hn (fun t ht _ => ⟨⟨r, (), rfl, rfl, by rw [ht]; exact hH.1, hH.2.1⟩, hH.2.2.F ht⟩) hH.2.2.2.2 hdg C.2.2.2.2.2.2
theorem retJ {r : Int64} {w' : va_W} (C : Cx p s m args meth c cc nL (some .long) own) (hH : Hp g A s H locs w') (hdg : decode cc pc = .ok (.lreturn, 1)) : W p l e R s m args below meth c H locs 0 0 (MQ below (va_Ql (fun (r' : Int64) (_ : Unit) => r' = r) (fun _ t => Po g A w' t) A) args s 0 0 A) (F0 m pc ls [.long r]) :=
  W.lret C.1 C.2.1 C.2.2.2.2.2.1 (fun t ht _ => ⟨⟨r, (), rfl, rfl, by rw [ht]; exact hH.1, hH.2.1⟩, hH.2.2.F ht⟩) hH.2.2.2.2 hdg C.2.2.2.2.2.2
theorem retV {w' : va_W} (C : Cx p s m args meth c cc nL none own) (hH : Hp g A s H locs w') (hdg : decode cc pc = .ok (.return_, 1)) : W p l e R s m args below meth c H locs 0 0 (MQ below (va_Qv (fun (_ : Unit) => True) (fun _ t => Po g A w' t) A) args s 0 0 A) (F0 m pc ls []) :=
  W.vret C.1 C.2.1 C.2.2.2.2.2.1 (fun t ht _ => ⟨⟨(), rfl, trivial, by rw [ht]; exact hH.1, hH.2.1⟩, hH.2.2.F ht⟩) hH.2.2.2.2 hdg C.2.2.2.2.2.2
-- ===== calls =====
theorem preC {wc : va_W} (hE : Ev g A s s.heap) (hA : ∀ q : Nat, s.heap.size ≤ q → A q) (hH : Hp g A s H locs ws) (isC : List Nat) (hn : va_nd isC = true) (hC : isC.map (fun i => ws[i]?) = wc.map some) (U : State) (hU : U.heap = H) (hW : s.WarmedH U.vm) : Pre g wc H.size U := by
  have hF := va_free hH.2.1 hH.2.2 hA isC hC
  refine ⟨by rw [hU], by rw [hU]; exact P_map hH.1 hC, (hH.2.1.sub isC hn hC).weaken (fun _ _ _ _ => trivial), ?_⟩
  rw [hU]
  exact ((hE.kept hH.2.2.2.1).narrow hF).warm hW
variable {y : MethodName} {bytes : ByteArray} {maxL n index mc ms : Nat} {ret' : Option FieldType} {rm : Room} {Qc : Array Value → State → Outcome → State → Prop} {free : Addr → Prop} {As st0 : List Value} {b : Nat} {wc : va_W}
theorem runV (C : Cx p s m args meth c cc nL ret own) (hE : Ev g A s s.heap) (hA : ∀ q : Nat, s.heap.size ≤ q → A q) (hH : Hp g A s H locs ws) (isC : List Nat) (hnd : va_nd isC = true) (hC : isC.map (fun i => ws[i]?) = wc.map some)
    (hM : Met l y (Cond.code y bytes maxL ret' :: wsL_law) rm (va_Pc (.ref b :: As) (Pre g wc H.size)) Qc mc ms free) (h1 : Cond.methodLink own index y ∈ wsL_law) (h2 : Cond.instanceMethod y ∈ wsL_law) (h3 : Cond.selects y.cls y y ∈ wsL_law) (h4 : Cond.initialized y.cls ∈ wsL_law) (h5 : Cond.code y bytes maxL ret' ∈ wsL_law)
    (hd : y.cls = y.cls ∧ y.cls ≠ "java/lang/invoke/MethodHandle" ∧ y.cls ≠ "java/lang/invoke/VarHandle" ∧ (parseMethodDescriptor y.desc).map (fun d => d.parameters.length) = some n) {ci : Nat} {fs : List Value} {T : u_T} {N : Nat} (q0 : Nat) (he : ws[q0]? = some (b, .inr (ci, fs))) (hc : vwCl[ci]? = some (y.cls, T, N))
    (hrc : rm.cells = mc) (hrs : rm.slots = ms) (hR : rm.frames + 1 ≤ R.frames ∧ 8 + (maxL + 11) + rm.locals ≤ R.locals) (hn : As.length = n) (hsz : ls.size = nL) (hst : st0 = As.reverse ++ .ref b :: rest) (hWd : (rest.map fun v => v.category).sum ≤ 8) (hdg : decode cc pc = .ok (.invokevirtual index, 3)) (hf : cells + mc ≤ R.cells ∧ slots + ms ≤ R.slots) :
    va_Run p l e R s m args below meth c H locs cells slots mc ms (F0 m pc ls st0) rest (Qc (Value.ref b :: As).toArray) free :=
  va_runV (C := y.cls) (As := As) (rest := rest) ⟨C.1, C.2.1, C.2.2.1, C.2.2.2.1, C.2.2.2.2.1⟩ hM
    (cwV n C.2.2.2.2.1 (fun w hw => by
      rcases List.mem_append.mp hw with h | h
      · refine TT_self w ?_
        simp only [List.mem_cons, List.not_mem_nil, or_false] at h
        rcases h with rfl | rfl | rfl | rfl <;> assumption
      · rcases List.mem_cons.mp h with rfl | h
        · exact TT_self _ h5
        · exact TT_self w h) rfl hrc hrs hd hR)
    ⟨Pre.blind, va_recv hE.1 hH.1 hc he, fun U hU hW => ⟨rfl, preC hE hA hH isC hnd hC U hU hW⟩⟩ rfl hn hsz hst (lv_room hWd) hdg hf
theorem runVs (C : Cx p s m args meth c cc nL ret own) (hE : Ev g A s s.heap) (hA : ∀ q : Nat, s.heap.size ≤ q → A q) (hH : Hp g A s H locs ws) (isC : List Nat) (hnd : va_nd isC = true) (hC : isC.map (fun i => ws[i]?) = wc.map some)
    (hM : Met l y (Cond.code y bytes maxL ret' :: wsL_law) rm (va_Pc (.ref b :: As) (Pre g wc H.size)) Qc mc ms free) (h1 : Cond.methodLink own index y ∈ wsL_law) (h2 : Cond.instanceMethod y ∈ wsL_law) (h3 : Cond.selects y.cls y y ∈ wsL_law) (h4 : Cond.initialized y.cls ∈ wsL_law) (h5 : Cond.code y bytes maxL ret' ∈ wsL_law)
    (hd : y.cls = y.cls ∧ y.cls ≠ "java/lang/invoke/MethodHandle" ∧ y.cls ≠ "java/lang/invoke/VarHandle" ∧ (parseMethodDescriptor y.desc).map (fun d => d.parameters.length) = some n) (hrec : ∃ cell : Cell, H[b]? = some cell ∧ cell.vm.isStatics = false ∧ s.vm.findClass y.cls = some cell.cls)
    (hrc : rm.cells = mc) (hrs : rm.slots = ms) (hR : rm.frames + 1 ≤ R.frames ∧ 8 + (maxL + 11) + rm.locals ≤ R.locals) (hn : As.length = n) (hsz : ls.size = nL) (hst : st0 = As.reverse ++ .ref b :: rest) (hWd : (rest.map fun v => v.category).sum ≤ 8) (hdg : decode cc pc = .ok (.invokevirtual index, 3)) (hf : cells + mc ≤ R.cells ∧ slots + ms ≤ R.slots) :
    va_Run p l e R s m args below meth c H locs cells slots mc ms (F0 m pc ls st0) rest (Qc (Value.ref b :: As).toArray) free :=
  va_runV (C := y.cls) (As := As) (rest := rest) ⟨C.1, C.2.1, C.2.2.1, C.2.2.2.1, C.2.2.2.2.1⟩ hM
    (cwV n C.2.2.2.2.1 (fun w hw => by
      rcases List.mem_append.mp hw with h | h
      · refine TT_self w ?_
        simp only [List.mem_cons, List.not_mem_nil, or_false] at h
        rcases h with rfl | rfl | rfl | rfl <;> assumption
      · rcases List.mem_cons.mp h with rfl | h
        · exact TT_self _ h5
        · exact TT_self w h) rfl hrc hrs hd hR)
    ⟨Pre.blind, hrec, fun U hU hW => ⟨rfl, preC hE hA hH isC hnd hC U hU hW⟩⟩ rfl hn hsz hst (lv_room hWd) hdg hf
theorem runS (C : Cx p s m args meth c cc nL ret own) (hE : Ev g A s s.heap) (hA : ∀ q : Nat, s.heap.size ≤ q → A q) (hH : Hp g A s H locs ws) (isC : List Nat) (hnd : va_nd isC = true) (hC : isC.map (fun i => ws[i]?) = wc.map some)
    (hM : Met l y (Cond.code y bytes maxL ret' :: wsL_law) rm (va_Pc As (Pre g wc H.size)) Qc mc ms free) (h1 : Cond.methodLink own index y ∈ wsL_law) (h2 : Cond.static y ∈ wsL_law) (h4 : Cond.initialized y.cls ∈ wsL_law) (h5 : Cond.code y bytes maxL ret' ∈ wsL_law)
    (hd : y.cls = y.cls ∧ y.cls ≠ "java/lang/invoke/MethodHandle" ∧ y.cls ≠ "java/lang/invoke/VarHandle" ∧ (parseMethodDescriptor y.desc).map (fun d => d.parameters.length) = some n)
    (hrc : rm.cells = mc) (hrs : rm.slots = ms) (hR : rm.frames + 1 ≤ R.frames ∧ 8 + (maxL + 11) + rm.locals ≤ R.locals) (hn : As.length = n) (hsz : ls.size = nL) (hst : st0 = As.reverse ++ rest) (hWd : (rest.map fun v => v.category).sum ≤ 8) (hdg : decode cc pc = .ok (.invokestatic index, 3)) (hf : cells + mc ≤ R.cells ∧ slots + ms ≤ R.slots) :
    va_Run p l e R s m args below meth c H locs cells slots mc ms (F0 m pc ls st0) rest (Qc As.toArray) free :=
  va_runS (As := As) (rest := rest) ⟨C.1, C.2.1, C.2.2.1, C.2.2.2.1, C.2.2.2.2.1⟩ hM
    (va_cwS n C.2.2.2.2.1 (fun w hw => by
      rcases List.mem_append.mp hw with h | h
      · refine TT_self w ?_
        simp only [List.mem_cons, List.not_mem_nil, or_false] at h
        rcases h with rfl | rfl | rfl <;> assumption
      · rcases List.mem_cons.mp h with rfl | h
        · exact TT_self _ h5
        · exact TT_self w h) rfl hrc hrs hd.2 hR)
    ⟨Pre.blind, fun U hU hW => ⟨rfl, preC hE hA hH isC hnd hC U hU hW⟩⟩ rfl hn hsz hst (lv_room hWd) hdg hf
theorem runSN {host : String} (C : Cx p s m args meth c cc nL ret own) (hE : Ev g A s s.heap) (hA : ∀ q : Nat, s.heap.size ≤ q → A q) (hH : Hp g A s H locs ws) (isC : List Nat) (hnd : va_nd isC = true) (hC : isC.map (fun i => ws[i]?) = wc.map some)
    (hM : Met l y (Cond.code y bytes maxL ret' :: wsL_law) rm (va_Pc As (Pre g wc H.size)) Qc mc ms free) (h1 : va_Nw (.methodLinkNest own index y host) s) (h2 : Cond.static y ∈ wsL_law) (h4 : Cond.initialized y.cls ∈ wsL_law) (h5 : Cond.code y bytes maxL ret' ∈ wsL_law)
    (hd : y.cls = y.cls ∧ y.cls ≠ "java/lang/invoke/MethodHandle" ∧ y.cls ≠ "java/lang/invoke/VarHandle" ∧ (parseMethodDescriptor y.desc).map (fun d => d.parameters.length) = some n)
    (hrc : rm.cells = mc) (hrs : rm.slots = ms) (hR : rm.frames + 1 ≤ R.frames ∧ 8 + (maxL + 11) + rm.locals ≤ R.locals) (hn : As.length = n) (hsz : ls.size = nL) (hst : st0 = As.reverse ++ rest) (hWd : (rest.map fun v => v.category).sum ≤ 8) (hdg : decode cc pc = .ok (.invokestatic index, 3)) (hf : cells + mc ≤ R.cells ∧ slots + ms ≤ R.slots) :
    va_Run p l e R s m args below meth c H locs cells slots mc ms (F0 m pc ls st0) rest (Qc As.toArray) free :=
  va_runSN (As := As) (rest := rest) (host := host) ⟨C.1, C.2.1, C.2.2.1, C.2.2.2.1, C.2.2.2.2.1⟩ hM
    ⟨va_cnB n C.2.2.2.2.1 (fun w hw => by
      rcases List.mem_cons.mp hw with rfl | h
      · exact TT_self _ h5
      · exact TT_self w h) rfl hrc hrs h1 (C.2.2.2.2.1 _ h4) hd.2 hR, C.2.2.2.2.1 _ h2, trivial⟩
    ⟨Pre.blind, fun U hU hW => ⟨rfl, preC hE hA hH isC hnd hC U hU hW⟩⟩ rfl hn hsz hst (lv_room hWd) hdg hf
theorem aftPI {r : Int32} {aa : Array Value} (hr : va_Run p l e R s m args below meth c H locs cells slots 0 0 (F0 m pc ls st0) rest (QcRead r aa) (fun _ => False)) (kk : W p l e R s m args below meth c H locs cells slots Q (F0 m (pc + 3) ls (.int r :: rest))) : W p l e R s m args below meth c H locs cells slots Q (F0 m pc ls st0) := by
  intro T hT X
  obtain ⟨v, st₀, t, T', L, h0, X', hL, e1, -, ⟨hv, hh⟩, st⟩ := hr T hT X
  cases hv
  obtain ⟨t2, a1, b1⟩ := kk T' (by rw [e1, hh, h0]) (Stand.forget X' (fun q h => (hL q h).elim))
  exact ⟨t2, st t2 a1, b1⟩
theorem aftPJ {r : Int64} {aa : Array Value} (hr : va_Run p l e R s m args below meth c H locs cells slots 0 0 (F0 m pc ls st0) rest (QcReadJ r aa) (fun _ => False)) (kk : W p l e R s m args below meth c H locs cells slots Q (F0 m (pc + 3) ls (.long r :: rest))) : W p l e R s m args below meth c H locs cells slots Q (F0 m pc ls st0) := by
  intro T hT X
  obtain ⟨v, st₀, t, T', L, h0, X', hL, e1, -, ⟨hv, hh⟩, st⟩ := hr T hT X
  cases hv
  obtain ⟨t2, a1, b1⟩ := kk T' (by rw [e1, hh, h0]) (Stand.forget X' (fun q h => (hL q h).elim))
  exact ⟨t2, st t2 a1, b1⟩
theorem aftPV {aa : Array Value} (hr : va_Run p l e R s m args below meth c H locs cells slots 0 0 (F0 m pc ls st0) rest (QcReadV aa) (fun _ => False)) (kk : W p l e R s m args below meth c H locs cells slots Q (F0 m (pc + 3) ls rest)) : W p l e R s m args below meth c H locs cells slots Q (F0 m pc ls st0) := by
  intro T hT X
  obtain ⟨v, st₀, t, T', L, h0, X', hL, e1, -, ⟨hv, hh⟩, st⟩ := hr T hT X
  cases hv
  obtain ⟨t2, a1, b1⟩ := kk T' (by rw [e1, hh, h0]) (Stand.forget X' (fun q h => (hL q h).elim))
  exact ⟨t2, st t2 a1, b1⟩
theorem joinC {wr w1 ws2 : va_W} {H1 : Heap} {locs1 : List Loc} (hA : ∀ q : Nat, s.heap.size ≤ q → A q) (hH : Hp g A s H locs ws) (isC isR : List Nat) (hC : isC.map (fun i => ws[i]?) = wc.map some) (hR : isR.map (fun i => ws[i]?) = wr.map some) (hn : va_nd isR = true) (hdis : ∀ i ∈ isR, i ∉ isC) (perm : List Nat) (hnp : va_nd perm = true) (hp : perm.map (fun i => (wr ++ w1)[i]?) = ws2.map some)
    (hk : ∀ q : Nat, q < H.size → ¬ va_A wc H.size q → H1[q]? = H[q]?) (hB : va_P g.1 vwCl w1 H1 ∧ va_D (va_A wc H.size) w1) (hS : va_S A s.heap H1 locs1) : Hp g A s H1 locs1 ws2 := by
  have hF := va_free hH.2.1 hH.2.2 hA isC hC
  obtain ⟨hP, hD⟩ := va_join hH.1 hH.2.1 isC isR hC hR hn hdis hk hF hB.1 hB.2
  exact ⟨P_map hP hp, hD.sub perm hnp hp, hS⟩
theorem aftI {r : Int32} {aa : Array Value} {wr w1 ws2 : va_W} (hr : va_Run p l e R s m args below meth c H locs cells slots 0 0 (F0 m pc ls st0) rest (va_Qi (fun (r' : Int32) (_ : Unit) => r' = r) (fun _ t => Po g (va_A wc H.size) w1 t) (va_A wc H.size) aa) (va_A wc H.size)) (hA : ∀ q : Nat, s.heap.size ≤ q → A q) (hH : Hp g A s H locs ws) (isC isR : List Nat) (hC : isC.map (fun i => ws[i]?) = wc.map some) (hR : isR.map (fun i => ws[i]?) = wr.map some) (hn : va_nd isR = true) (hdis : ∀ i ∈ isR, i ∉ isC) (perm : List Nat) (hnp : va_nd perm = true) (hp : perm.map (fun i => (wr ++ w1)[i]?) = ws2.map some)
    (kk : ∀ (H1 : Heap) (locs1 : List Loc), Hp g A s H1 locs1 ws2 → W p l e R s m args below meth c H1 locs1 cells slots Q (F0 m (pc + 3) ls (.int r :: rest))) : W p l e R s m args below meth c H locs cells slots Q (F0 m pc ls st0) := by
  have hF := va_free hH.2.1 hH.2.2 hA isC hC
  refine va_calli hr hH.2.2 (fun q _ h => hF q h) hF (fun r' u t H1 locs1 ht hvm hw hB hz hk hS => ?_)
  subst ht
  cases hw
  exact kk _ locs1 (joinC hA hH isC isR hC hR hn hdis perm hnp hp hk hB hS)
theorem aftJ {r : Int64} {aa : Array Value} {wr w1 ws2 : va_W} (hr : va_Run p l e R s m args below meth c H locs cells slots 0 0 (F0 m pc ls st0) rest (va_Ql (fun (r' : Int64) (_ : Unit) => r' = r) (fun _ t => Po g (va_A wc H.size) w1 t) (va_A wc H.size) aa) (va_A wc H.size)) (hA : ∀ q : Nat, s.heap.size ≤ q → A q) (hH : Hp g A s H locs ws) (isC isR : List Nat) (hC : isC.map (fun i => ws[i]?) = wc.map some) (hR : isR.map (fun i => ws[i]?) = wr.map some) (hn : va_nd isR = true) (hdis : ∀ i ∈ isR, i ∉ isC) (perm : List Nat) (hnp : va_nd perm = true) (hp : perm.map (fun i => (wr ++ w1)[i]?) = ws2.map some)
    (kk : ∀ (H1 : Heap) (locs1 : List Loc), Hp g A s H1 locs1 ws2 → W p l e R s m args below meth c H1 locs1 cells slots Q (F0 m (pc + 3) ls (.long r :: rest))) : W p l e R s m args below meth c H locs cells slots Q (F0 m pc ls st0) := by
  have hF := va_free hH.2.1 hH.2.2 hA isC hC
  refine va_calll hr hH.2.2 (fun q _ h => hF q h) hF (fun r' u t H1 locs1 ht hvm hw hB hz hk hS => ?_)
  subst ht
  cases hw
  exact kk _ locs1 (joinC hA hH isC isR hC hR hn hdis perm hnp hp hk hB hS)
theorem aftV {aa : Array Value} {wr w1 ws2 : va_W} (hr : va_Run p l e R s m args below meth c H locs cells slots 0 0 (F0 m pc ls st0) rest (va_Qv (fun (_ : Unit) => True) (fun _ t => Po g (va_A wc H.size) w1 t) (va_A wc H.size) aa) (va_A wc H.size)) (hA : ∀ q : Nat, s.heap.size ≤ q → A q) (hH : Hp g A s H locs ws) (isC isR : List Nat) (hC : isC.map (fun i => ws[i]?) = wc.map some) (hR : isR.map (fun i => ws[i]?) = wr.map some) (hn : va_nd isR = true) (hdis : ∀ i ∈ isR, i ∉ isC) (perm : List Nat) (hnp : va_nd perm = true) (hp : perm.map (fun i => (wr ++ w1)[i]?) = ws2.map some)
    (kk : ∀ (H1 : Heap) (locs1 : List Loc), Hp g A s H1 locs1 ws2 → W p l e R s m args below meth c H1 locs1 cells slots Q (F0 m (pc + 3) ls rest)) : W p l e R s m args below meth c H locs cells slots Q (F0 m pc ls st0) := by
  have hF := va_free hH.2.1 hH.2.2 hA isC hC
  refine va_callv hr hH.2.2 (fun q _ h => hF q h) hF (fun u t H1 locs1 ht hvm hw hB hz hk hS => ?_)
  subst ht
  exact kk _ locs1 (joinC hA hH isC isR hC hR hn hdis perm hnp hp hk hB hS)
end XR
