-- ===== constructors: rows =====
section IN
variable {p : Program} {l : Launch} {e : Env} {R : Room} {s : State} {m : MethodId} {args : Array Value} {below : List Frame} {meth : Method} {c : Code} {H : Heap} {locs : List Loc} {cells slots : Nat} {Q : State → Prop}
variable {cc : ByteArray} {nL pc : Nat} {ret : Option FieldType} {own : String} {ls : Array Slot} {rest : List Value} {g : Gl} {A : Nat → Prop} {ws : va_W} {a : Nat}
/-- a constructor's start -/
def Pre2 (g : Gl) (w : va_W) (sz : Nat) (U : State) : Prop := Pre g w sz U ∧ va_AO RX2 U
theorem Pre2.blind {g : Gl} {w : va_W} {sz : Nat} {av : List Value} : FrameBlind (va_Pc av (Pre2 g w sz)) := fun _ U _ _ q => ⟨q.1, ⟨q.2.1.1, q.2.1.2.1, q.2.1.2.2.1, q.2.1.2.2.2.same rfl⟩, va_AO.moved (Vm.Alike.refl U.vm) q.2.2⟩
abbrev QcN (g : Gl) (A : Nat → Prop) (h0 : Nat) (wf : (Nat → Nat) → va_W) : Array Value → State → Outcome → State → Prop := va_Qv (fun (ad : Nat → Nat) => ad 0 = h0) (fun ad t => Po g A (wf ad) t) A
abbrev MetN (l : Launch) (y : MethodName) (ws : List Cond) (rm : Room) (h0 : Nat) (g : Gl) (w : va_W) (sz : Nat) (wf : (Nat → Nat) → va_W) (mc ms : Nat) : Prop := Met l y ws rm (va_Pc [.ref h0] (Pre2 g w sz)) (QcN g (va_A w sz) h0 wf) mc ms (va_A w sz)
theorem openN {y : MethodName} {maxL h0 mc ms sz : Nat} {rm : Room} {w : va_W} {wf : (Nat → Nat) → va_W} (hy : plainFor y = true) (hmx : 1 ≤ maxL)
    (body : ∀ (p : Program) (e : Env) (s : State) (m : MethodId) (args : Array Value) (below : List Frame) (meth : Method) (c : Code) (A : Nat → Prop), Cx p s m args meth c cc maxL none y.cls → meth.name = y.name → va_AO RX2 s → Ev g A s s.heap → (∀ q : Nat, s.heap.size ≤ q → A q) → Hp g A s s.heap [] w →
      ∀ ls : Array Slot, lv_has ls maxL [(0, .ref h0)] → W p l e rm s m args below meth c s.heap [] 0 0 (MQ below (QcN g A h0 wf) args s mc ms A) (F0 m 0 ls [])) : MetN l y (Cond.code y cc maxL none :: wsL_law) rm h0 g w sz wf mc ms := by
  refine va_MetF (cc := cc) (maxL := maxL) (ret := none) hy rfl ?_
  intro p e s m args below meth c s₁ B hml hv
  obtain ⟨rfl, ⟨hsz, hP, hD0, hE⟩, hAO⟩ := hv
  have hts := atoms_spec (ws := Cond.code y cc maxL none :: wsL_law) B.pre
  subst hsz
  rw [lg_entry_eq]
  exact body p e s m _ below meth c (va_A w s.heap.size) ⟨B.exec, B.bytes, hml, findClass_of_methodNamed B.named, fun w h => hts w (List.mem_cons_of_mem _ h), B.returns, B.notSynchronized⟩ (name_of_methodNamed B.named B.method).1 hAO hE (fun q h => Or.inr h) ⟨hP, hD0.self, va_S.rf⟩ _ (lv_entry [.ref h0] hmx)
theorem xobj (C : Cx p s m args meth c cc nL ret own) (hsz : ls.size = nL) {idx : Nat} (hl : Cond.methodLink own idx objectInit ∈ wsL_law) (hi : Cond.instanceMethod objectInit ∈ wsL_law) (hcd : Cond.code objectInit ⟨#[0xb1]⟩ 1 none ∈ wsL_law) (hdg : decode cc pc = .ok (.invokespecial idx, 3)) (hf : 1 ≤ R.frames) (hlo : (rest.map fun v => v.category).sum + 12 ≤ R.locals)
    (kk : W p l e R s m args below meth c H locs cells slots Q (F0 m (pc + 3) ls rest)) : W p l e R s m args below meth c H locs cells slots Q (F0 m pc ls (.ref a :: rest)) := by
  refine W.objInit C.1 C.2.1 C.2.2.2.1 (C.2.2.2.2.1 _ hl) (C.2.2.2.2.1 _ hi) (C.2.2.2.2.1 _ hcd) rfl (by rw [C.2.2.1]; exact hsz) rfl hdg hf ?_ ?_
  · show 2 * 0 + (rest.map fun v => v.category).sum + 12 ≤ R.locals
    omega
  · exact W.eq (g2 := F0 m (pc + 3) ls rest) rfl kk
theorem xputF (C : Cx p s m args meth c cc nL ret own) (hin2 : meth.name = "<init>") (hE : Ev g A s s.heap) (hH : Hp g A s H locs ws) (q0 : Nat) {ci index : Nat} {fs : List Value} {cls ref : String} {T : u_T} {N : Nat} (he : ws[q0]? = some (a, .inr (ci, fs))) (hc : vwCl[ci]? = some (cls, T, N)) (hin : ∀ w ∈ u_ws cls T N, w ∈ wsL_law) (ty0 : Nat → FieldType) (hty : ∀ k, k < N → parseFieldDescriptor (T k).2.2.1 = some (ty0 k)) (hnm : ∀ a, a < N → ∀ b, b < N → a ≠ b → (T a).2.1 ≠ (T b).2.1) (k : Nat) (hk : k < N) (hlink : Cond.fieldLink own index ref (T k).2.1 (T k).2.2.1 ∈ wsL_law) (hsame : (T k).1 = ref) (hfin : (T k).2.2.2 = true) (hdecl : (T k).1 = own) {ty : FieldType} (hd : ty0 k = ty) {v : Value} (hn : narrow ty v = v) (hfit : fits ty v = true) (hl : k < fs.length)
    (hdg : decode cc pc = .ok (.putfield index, 3))
    (kk : ∀ (H1 : Heap) (locs1 : List Loc), Hp g A s H1 locs1 (ws.set q0 (a, .inr (ci, fs.set k v))) → W p l e R s m args below meth c H1 locs1 cells slots Q (F0 m (pc + 3) ls rest)) : W p l e R s m args below meth c H locs cells slots Q (F0 m pc ls (v :: .ref a :: rest)) :=
  va_putF C.1 C.2.1 C.2.2.2.2.1 hin ty0 hty hnm C.2.2.2.1 hE.1 hH.1 hH.2.1 hH.2.2 q0 he hc k hk (C.2.2.2.2.1 _ hlink) (fun x h => by rw [← hsame]; exact h) hfin hin2 hdecl (by rw [hty k hk, hd]) hn hfit hl hdg (fun H1 locs1 h1 h2 h3 => kk H1 locs1 ⟨h1, h2, h3⟩)
theorem xputW (C : Cx p s m args meth c cc nL ret own) (hE : Ev g A s s.heap) (hH : Hp g A s H locs ws) (q0 : Nat) {ci index : Nat} {fs : List Value} {cls ref : String} {T : u_T} {N : Nat} (he : ws[q0]? = some (a, .inr (ci, fs))) (hc : vwCl[ci]? = some (cls, T, N)) (hin : ∀ w ∈ u_ws cls T N, w ∈ wsL_law) (ty0 : Nat → FieldType) (hty : ∀ k, k < N → parseFieldDescriptor (T k).2.2.1 = some (ty0 k)) (hnm : ∀ a, a < N → ∀ b, b < N → a ≠ b → (T a).2.1 ≠ (T b).2.1) (k : Nat) (hk : k < N) (hlink : Cond.fieldLink own index ref (T k).2.1 (T k).2.2.1 ∈ wsL_law) (hsame : (T k).1 = ref) (hfin : (T k).2.2.2 = false) {ty : FieldType} (hd : ty0 k = ty) {v : Value} (hn : narrow ty v = v) (hfit : fits ty v = true) (hl : k < fs.length)
    (hdg : decode cc pc = .ok (.putfield index, 3))
    (kk : ∀ (H1 : Heap) (locs1 : List Loc), Hp g A s H1 locs1 (ws.set q0 (a, .inr (ci, fs.set k v))) → W p l e R s m args below meth c H1 locs1 cells slots Q (F0 m (pc + 3) ls rest)) : W p l e R s m args below meth c H locs cells slots Q (F0 m pc ls (v :: .ref a :: rest)) :=
  va_put C.1 C.2.1 C.2.2.2.2.1 hin ty0 hty hnm C.2.2.2.1 hE.1 hH.1 hH.2.1 hH.2.2 q0 he hc k hk (C.2.2.2.2.1 _ hlink) (fun x h => by rw [← hsame]; exact h) hfin (by rw [hty k hk, hd]) hn hfit hl hdg (fun H1 locs1 h1 h2 h3 => kk H1 locs1 ⟨h1, h2, h3⟩)
theorem xnewI (C : Cx p s m args meth c cc nL ret own) (hE : Ev g A s s.heap) (hA : ∀ q : Nat, s.heap.size ≤ q → A q) (hH : Hp g A s H locs ws) {n : Int32} (N : Nat) (hn : ¬ n < 0) (hN : n.toNatClampNeg = N) (hby : N * 4 ≤ 536870912) (hcells : cells + 1 ≤ R.cells) (hslots : slots + N ≤ R.slots) (harr : Cond.arrayClass .int ∈ wsL_law) (hdg : decode cc pc = .ok (.newarray .int, 2))
    (kk : ∀ (q : Nat) (H1 : Heap), Hp g A s H1 locs (ws ++ [(q, .inl (gI g, N, .inl (fun _ => 0)))]) → W p l e R s m args below meth c H1 locs (cells + 1) (slots + N) Q (F0 m (pc + 2) ls (.ref q :: rest))) : W p l e R s m args below meth c H locs cells slots Q (F0 m pc ls (.int n :: rest)) := by
  refine va_newa (atype := .int) (ty := .int) (a0 := (N, .inl (fun _ => 0))) C.1 C.2.1 (C.2.2.2.2.1 _ harr) rfl hE.1 hH.1 hH.2.1 hH.2.2 hA (fun cA => rfl) hn hN hby hcells hslots hdg (fun q cA H1 hK hP hD hS => ?_)
  have e1 : s.vm.findClass ("[" ++ FieldType.int.toString) = some cA := (hK.2 3 _ rfl).2
  have e2 : s.vm.findClass ("[" ++ FieldType.int.toString) = some (gI g) := (hE.1.2 0 _ rfl).2
  have e3 : cA = gI g := Option.some.inj (e1.symm.trans e2)
  subst e3
  exact kk q H1 ⟨hP, hD, hS⟩
theorem xnewJ (C : Cx p s m args meth c cc nL ret own) (hE : Ev g A s s.heap) (hA : ∀ q : Nat, s.heap.size ≤ q → A q) (hH : Hp g A s H locs ws) {n : Int32} (N : Nat) (hn : ¬ n < 0) (hN : n.toNatClampNeg = N) (hby : N * 8 ≤ 536870912) (hcells : cells + 1 ≤ R.cells) (hslots : slots + N ≤ R.slots) (harr : Cond.arrayClass .long ∈ wsL_law) (hdg : decode cc pc = .ok (.newarray .long, 2))
    (kk : ∀ (q : Nat) (H1 : Heap), Hp g A s H1 locs (ws ++ [(q, .inl (gJ g, N, .inr (.inl (fun _ => 0))))]) → W p l e R s m args below meth c H1 locs (cells + 1) (slots + N) Q (F0 m (pc + 2) ls (.ref q :: rest))) : W p l e R s m args below meth c H locs cells slots Q (F0 m pc ls (.int n :: rest)) := by
  refine va_newa (atype := .long) (ty := .long) (a0 := (N, .inr (.inl (fun _ => 0)))) C.1 C.2.1 (C.2.2.2.2.1 _ harr) rfl hE.1 hH.1 hH.2.1 hH.2.2 hA (fun cA => rfl) hn hN hby hcells hslots hdg (fun q cA H1 hK hP hD hS => ?_)
  have e1 : s.vm.findClass ("[" ++ FieldType.long.toString) = some cA := (hK.2 3 _ rfl).2
  have e2 : s.vm.findClass ("[" ++ FieldType.long.toString) = some (gJ g) := (hE.1.2 1 _ rfl).2
  have e3 : cA = gJ g := Option.some.inj (e1.symm.trans e2)
  subst e3
  exact kk q H1 ⟨hP, hD, hS⟩
theorem xnewQ (C : Cx p s m args meth c cc nL ret own) (hE : Ev g A s s.heap) (hAO : va_AO RX2 s) (hA : ∀ q : Nat, s.heap.size ≤ q → A q) (hH : Hp g A s H locs ws) {n : Int32} (N : Nat) (hn : ¬ n < 0) (hN : n.toNatClampNeg = N) (hby : N * 4 ≤ 536870912) (hcells : cells + 1 ≤ R.cells) (hslots : slots + N ≤ R.slots) {index : Nat} (hcl : Cond.classLink own index RX2 ∈ wsL_law) (hdg : decode cc pc = .ok (.anewarray index, 3))
    (kk : ∀ (q : Nat) (H1 : Heap), Hp g A s H1 locs (ws ++ [(q, .inl (gS g, N, .inr (.inr (.inr (.inr (fun _ => none))))))]) → W p l e R s m args below meth c H1 locs (cells + 1) (slots + N) Q (F0 m (pc + 3) ls (.ref q :: rest))) : W p l e R s m args below meth c H locs cells slots Q (F0 m pc ls (.int n :: rest)) := by
  refine va_newq C.1 C.2.1 C.2.2.2.1 (C.2.2.2.2.1 _ hcl) hAO hE.1 hH.1 hH.2.1 hH.2.2 hA hn hN hby hcells hslots hdg (fun q cA H1 hK hP hD hS => ?_)
  obtain ⟨-, -, -, -, -, e1⟩ := (hK.2 3 _ rfl).2
  obtain ⟨-, -, -, -, -, e2⟩ := (hE.1.2 2 _ rfl).2
  have e3 : cA = gS g := Option.some.inj (e1.symm.trans e2)
  subst e3
  exact kk q H1 ⟨hP, hD, hS⟩
theorem xnew (C : Cx p s m args meth c cc nL ret own) (hE : Ev g A s s.heap) (hA : ∀ q : Nat, s.heap.size ≤ q → A q) (hH : Hp g A s H locs ws) (ci : Nat) {index N : Nat} {K : String} {T : u_T} (hin : ∀ w ∈ u_ws K T N, w ∈ wsL_law) (ty : Nat → FieldType) (hty : ∀ k, k < N → parseFieldDescriptor (T k).2.2.1 = some (ty k)) (hcl : Cond.classLink own index K ∈ wsL_law) (hinst : Cond.instantiable K N ∈ wsL_law) (hini : Cond.initialized K ∈ wsL_law) (hc : vwCl[ci]? = some (K, T, N)) (fs : List Value) (hfs : ∀ j, j < N → defaultValue (ty j) = vp_V fs j) (hcells : cells + 1 ≤ R.cells) (hslots : slots + N ≤ R.slots) (hdg : decode cc pc = .ok (.new index, 3))
    (kk : ∀ (q : Nat) (H1 : Heap), Hp g A s H1 locs (ws ++ [(q, .inr (ci, fs))]) → W p l e R s m args below meth c H1 locs (cells + 1) (slots + N) Q (F0 m (pc + 3) ls (.ref q :: rest))) : W p l e R s m args below meth c H locs cells slots Q (F0 m pc ls rest) :=
  va_new C.1 C.2.1 C.2.2.2.2.1 hin ty hty C.2.2.2.1 (C.2.2.2.2.1 _ hcl) (C.2.2.2.2.1 _ hinst) (C.2.2.2.2.1 _ hini) hE.1 hH.1 hH.2.1 hH.2.2 hA hc hfs hcells hslots hdg (fun q H1 hP hD hS => kk q H1 ⟨hP, hD, hS⟩)
theorem xastq (C : Cx p s m args meth c cc nL ret own) (hE : Ev g A s s.heap) (hH : Hp g A s H locs ws) (q0 qk : Nat) {n v : Nat} {vs : List Value} {f : Nat → Option Nat} (ha : ws[q0]? = some (a, .inl (gS g, n, .inr (.inr (.inr (.inr f)))))) (hv : ws[qk]? = some (v, .inr (1, vs))) {i : Int32} (hin : inb i n = true) (hdg : decode cc pc = .ok (.aastore, 1))
    (kk : ∀ (H1 : Heap) (locs1 : List Loc), Hp g A s H1 locs1 (ws.set q0 (a, .inl (gS g, n, .inr (.inr (.inr (.inr (va_up f i.toNatClampNeg (some v)))))))) → W p l e R s m args below meth c H1 locs1 cells slots Q (F0 m (pc + 1) ls rest)) : W p l e R s m args below meth c H locs cells slots Q (F0 m pc ls (.ref v :: .int i :: .ref a :: rest)) :=
  va_astq (r := (RX2, TX2, 3)) C.1 C.2.1 hE.1 hH.1 hH.2.1 hH.2.2 q0 2 qk 1 ha rfl hv rfl (inb_in hin) hdg (fun H1 locs1 h1 h2 h3 => kk H1 locs1 ⟨h1, h2, h3⟩)
theorem preN {wc : va_W} (hE : Ev g A s s.heap) (hAO : va_AO RX2 s) (hA : ∀ q : Nat, s.heap.size ≤ q → A q) (hH : Hp g A s H locs ws) (isC : List Nat) (hn : va_nd isC = true) (hC : isC.map (fun i => ws[i]?) = wc.map some) (U : State) (hU : U.heap = H) (hW : s.WarmedH U.vm) : Pre2 g wc H.size U := ⟨preC hE hA hH isC hn hC U hU hW, hAO.moved hW.alike⟩
variable {y : MethodName} {bytes : ByteArray} {maxL index mc ms : Nat} {rm : Room} {Qc : Array Value → State → Outcome → State → Prop} {free : Addr → Prop} {st0 : List Value} {b : Nat} {wc : va_W}
theorem goodN (h5 : Cond.code y bytes maxL none ∈ wsL_law) : GoodIn wsL_law (Cond.code y bytes maxL none :: wsL_law) := fun w hw => by
  rcases List.mem_cons.mp hw with rfl | h
  · exact TT_self _ h5
  · exact TT_self w h
theorem runI (C : Cx p s m args meth c cc nL ret own) (hE : Ev g A s s.heap) (hAO : va_AO RX2 s) (hA : ∀ q : Nat, s.heap.size ≤ q → A q) (hH : Hp g A s H locs ws) (isC : List Nat) (hnd : va_nd isC = true) (hC : isC.map (fun i => ws[i]?) = wc.map some)
    (hM : Met l y (Cond.code y bytes maxL none :: wsL_law) rm (va_Pc [.ref b] (Pre2 g wc H.size)) Qc mc ms free) (h1 : Cond.methodLink own index y ∈ wsL_law) (h2 : Cond.instanceMethod y ∈ wsL_law) (h4 : Cond.initialized y.cls ∈ wsL_law) (h5 : Cond.code y bytes maxL none ∈ wsL_law) (hy1 : y.name = "<init>")
    (hd : y.cls ≠ "java/lang/invoke/MethodHandle" ∧ y.cls ≠ "java/lang/invoke/VarHandle" ∧ (parseMethodDescriptor y.desc).map (fun d => d.parameters.length) = some 0)
    (hrc : rm.cells = mc) (hrs : rm.slots = ms) (hR : rm.frames + 1 ≤ R.frames ∧ 8 + (maxL + 11) + rm.locals ≤ R.locals) (hsz : ls.size = nL) (hst : st0 = .ref b :: rest) (hWd : (rest.map fun v => v.category).sum ≤ 8) (hdg : decode cc pc = .ok (.invokespecial index, 3)) (hf : cells + mc ≤ R.cells ∧ slots + ms ≤ R.slots) :
    va_Run p l e R s m args below meth c H locs cells slots mc ms (F0 m pc ls st0) rest (Qc [Value.ref b].toArray) free :=
  va_runI (As := []) (rest := rest) ⟨C.1, C.2.1, C.2.2.1, C.2.2.2.1, C.2.2.2.2.1⟩ hM (cwI 0 C.2.2.2.2.1 (goodN h5) rfl hrc hrs (C.2.2.2.2.1 _ h4) (C.2.2.2.2.1 _ h1) (C.2.2.2.2.1 _ h2) hy1 hd hR) ⟨Pre2.blind, fun U hU hW => ⟨rfl, preN hE hAO hA hH isC hnd hC U hU hW⟩⟩ rfl rfl hsz hst (lv_room hWd) hdg hf
theorem runIN {host : String} (C : Cx p s m args meth c cc nL ret own) (hE : Ev g A s s.heap) (hAO : va_AO RX2 s) (hA : ∀ q : Nat, s.heap.size ≤ q → A q) (hH : Hp g A s H locs ws) (isC : List Nat) (hnd : va_nd isC = true) (hC : isC.map (fun i => ws[i]?) = wc.map some)
    (hM : Met l y (Cond.code y bytes maxL none :: wsL_law) rm (va_Pc [.ref b] (Pre2 g wc H.size)) Qc mc ms free) (h1 : va_Nw (.methodLinkNest own index y host) s) (h2 : Cond.instanceMethod y ∈ wsL_law) (h4 : Cond.initialized y.cls ∈ wsL_law) (h5 : Cond.code y bytes maxL none ∈ wsL_law) (hy1 : y.name = "<init>")
    (hd : y.cls ≠ "java/lang/invoke/MethodHandle" ∧ y.cls ≠ "java/lang/invoke/VarHandle" ∧ (parseMethodDescriptor y.desc).map (fun d => d.parameters.length) = some 0)
    (hrc : rm.cells = mc) (hrs : rm.slots = ms) (hR : rm.frames + 1 ≤ R.frames ∧ 8 + (maxL + 11) + rm.locals ≤ R.locals) (hsz : ls.size = nL) (hst : st0 = .ref b :: rest) (hWd : (rest.map fun v => v.category).sum ≤ 8) (hdg : decode cc pc = .ok (.invokespecial index, 3)) (hf : cells + mc ≤ R.cells ∧ slots + ms ≤ R.slots) :
    va_Run p l e R s m args below meth c H locs cells slots mc ms (F0 m pc ls st0) rest (Qc [Value.ref b].toArray) free :=
  va_runIN (As := []) (rest := rest) (host := host) ⟨C.1, C.2.1, C.2.2.1, C.2.2.2.1, C.2.2.2.2.1⟩ hM ⟨va_cnB 0 C.2.2.2.2.1 (goodN h5) rfl hrc hrs h1 (C.2.2.2.2.1 _ h4) hd hR, hy1, C.2.2.2.2.1 _ h2⟩ ⟨Pre2.blind, fun U hU hW => ⟨rfl, preN hE hAO hA hH isC hnd hC U hU hW⟩⟩ rfl rfl hsz hst (lv_room hWd) hdg hf
theorem aftN {aa : Array Value} {wr : va_W} {wf : (Nat → Nat) → va_W} (hr : va_Run p l e R s m args below meth c H locs cells slots mc ms (F0 m pc ls st0) rest (QcN g (va_A wc H.size) b wf aa) (va_A wc H.size)) (hA : ∀ q : Nat, s.heap.size ≤ q → A q) (hH : Hp g A s H locs ws) (isC isR : List Nat) (hC : isC.map (fun i => ws[i]?) = wc.map some) (hR : isR.map (fun i => ws[i]?) = wr.map some) (hn : va_nd isR = true) (hdis : ∀ i ∈ isR, i ∉ isC)
    (kk : ∀ (ad : Nat → Nat), ad 0 = b → ∀ (H1 : Heap) (locs1 : List Loc), Hp g A s H1 locs1 (wr ++ wf ad) → W p l e R s m args below meth c H1 locs1 (cells + mc) (slots + ms) Q (F0 m (pc + 3) ls rest)) : W p l e R s m args below meth c H locs cells slots Q (F0 m pc ls st0) := by
  have hF := va_free hH.2.1 hH.2.2 hA isC hC
  refine va_callv hr hH.2.2 (fun q _ h => hF q h) hF (fun ad t H1 locs1 ht hvm hw hB hz hk hS => ?_)
  subst ht
  obtain ⟨hP, hD⟩ := va_join hH.1 hH.2.1 isC isR hC hR hn hdis hk hF hB.1 hB.2
  exact kk ad hw _ locs1 ⟨hP, hD, hS⟩
theorem retN {h0 : Nat} {wf : (Nat → Nat) → va_W} (C : Cx p s m args meth c cc nL none own) (ad : Nat → Nat) (h0e : ad 0 = h0) (hH : Hp g A s H locs (wf ad)) (hdg : decode cc pc = .ok (.return_, 1)) : W p l e R s m args below meth c H locs cells slots (MQ below (QcN g A h0 wf) args s cells slots A) (F0 m pc ls []) :=
  W.vret C.1 C.2.1 C.2.2.2.2.2.1 (fun t ht _ => ⟨⟨ad, rfl, h0e, by rw [ht]; exact hH.1, hH.2.1⟩, hH.2.2.F ht⟩) hH.2.2.2.2 hdg C.2.2.2.2.2.2
end IN
-- ===== the first numbers =====
def seaI (i : Nat) : M1 := fun j => if j < i then nI (5 * j % 13) else 0
theorem seaI_0 : seaI 0 = fun _ => 0 := by
  funext j
  unfold seaI
  rw [if_neg (by omega)]
theorem seaI_s (i : Nat) : upd (seaI i) i (nI (5 * i % 13)) = seaI (i + 1) := by
  funext j
  by_cases h : j = i
  · subst h
    rw [upd_eq]
    unfold seaI
    rw [if_pos (by omega)]
  · rw [upd_ne _ _ h]
    unfold seaI
    by_cases h2 : j < i
    · rw [if_pos h2, if_pos (by omega)]
    · rw [if_neg h2, if_neg (by omega)]
def rowI (i : Nat) : M1 := fun j => if j = 1 then 9 else if j = 2 then 100 else if j = 3 then 2 else if 7 ≤ j ∧ j < 7 + i then nI (5 * (j - 7) % 13) else 0
theorem rowI_0 : upd (upd (upd (fun _ => 0) 1 9) 2 100) 3 2 = rowI 0 := by
  funext j
  unfold rowI
  by_cases h3 : j = 3
  · subst h3; rw [upd_eq]; rfl
  · rw [upd_ne _ _ h3]
    by_cases h2 : j = 2
    · subst h2; rw [upd_eq]; rfl
    · rw [upd_ne _ _ h2]
      by_cases h1 : j = 1
      · subst h1; rw [upd_eq]; rfl
      · rw [upd_ne _ _ h1, if_neg h1, if_neg h2, if_neg h3, if_neg (by omega)]
theorem rowI_s (i : Nat) : upd (rowI i) (7 + i) (nI (5 * i % 13)) = rowI (i + 1) := by
  funext j
  by_cases h : j = 7 + i
  · subst h
    rw [upd_eq]
    unfold rowI
    rw [if_neg (by omega), if_neg (by omega), if_neg (by omega), if_pos (by omega), show 7 + i - 7 = i by omega]
  · rw [upd_ne _ _ h]
    unfold rowI
    by_cases h1 : 7 ≤ j ∧ j < 7 + i
    · rw [if_pos h1, if_pos (show 7 ≤ j ∧ j < 7 + (i + 1) by omega)]
    · rw [if_neg h1, if_neg (show ¬ (7 ≤ j ∧ j < 7 + (i + 1)) by omega)]
def L0 : M2 := fun a => if a = 0 then (fun i => if i = 1 then 9 else if i = 2 then 100 else if i = 3 then 2 else if i = 7 then -1 else if i = 8 then -1 else 0) else if a = 1 then seaI 28 else fun _ => 0
def T0 : M2 := fun _ _ => 0
def G0 : M2 := fun a => if a = 1 then rowI 28 else fun _ => 0
def Z1 : M1 := fun _ => 0
def Z2 : M2 := fun _ _ => 0
def Y1 : J1 := fun _ => 0
def Y2 : J2 := fun _ _ => 0
theorem ir13 {i : Nat} (hi : i < 28) : ((5 : Int32) * nI i) - ((5 : Int32) * nI i) / (13 : Int32) * (13 : Int32) = nI (5 * i % 13) := by
  rw [show (5 : Int32) * nI i = nI (5 * i) from n_mul 5 i]
  exact n_rem (d := 13) (by omega) (by decide) (by decide)
