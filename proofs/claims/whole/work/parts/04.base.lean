abbrev M1 : Type := Nat → Int32
abbrev M2 : Type := Nat → Nat → Int32
abbrev J1 : Type := Nat → Int64
abbrev J2 : Type := Nat → Nat → Int64
-- ===== the words of the pure functions =====
def letb {α β : Type} (a : α) (k : α → Option β) : Option β := k a
theorem letb_at {α β : Type} {a : α} {k : α → Option β} {r : β} (h : letb a k = some r) (v : α) (e : v = a) : k v = some r := by subst e; exact h
def grd {β : Type} (b : Bool) (k : Option β) : Option β := if b = true then k else none
theorem grd_inv {β : Type} {b : Bool} {k : Option β} {r : β} (h : grd b k = some r) : b = true ∧ k = some r := by
  unfold grd at h
  split at h
  · exact ⟨by assumption, h⟩
  · cases h
def inb (i : Int32) (n : Nat) : Bool := decide (¬ i < 0) && decide (i.toNatClampNeg < n)
theorem inb_in {i : Int32} {n : Nat} (h : inb i n = true) : vp_in i n := by
  unfold inb at h
  rw [Bool.and_eq_true, decide_eq_true_eq, decide_eq_true_eq] at h
  exact fun q => q.elim (fun q => h.1 q) (fun q => Nat.not_le.mpr h.2 q)
def isB (v : Int32) : Bool := decide (v = 0) || decide (v = 1)
theorem isB_cases {v : Int32} (h : isB v = true) : v = 0 ∨ v = 1 := by
  unfold isB at h
  rw [Bool.or_eq_true, decide_eq_true_eq, decide_eq_true_eq] at h
  exact h
theorem isB_nar {v : Int32} (h : isB v = true) : narrow .boolean (.int v) = .int v := by
  rcases isB_cases h with rfl | rfl <;> decide +kernel
def isBy (v : Int32) : Bool := decide (v.toInt8.toInt32 = v)
theorem isBy_nar {v : Int32} (h : isBy v = true) : narrow .byte (.int v) = .int v := by
  have h1 := of_decide_eq_true h
  rw [← h1]
  exact pk_nb _
def isC (v : Int32) : Bool := decide ((v.toUInt32 % 65536).toInt32 = v)
theorem isC_nar {v : Int32} (h : isC v = true) : narrow .char (.int v) = .int v := by
  have h1 := of_decide_eq_true h
  rw [← h1]
  exact pk_nc _
theorem isB_fit {v : Int32} (h : isB v = true) : fits .boolean (.int v) = true := by
  rcases isB_cases h with rfl | rfl <;> decide +kernel
theorem bind_inv {α β : Type} {o : Option α} {k : α → Option β} {r : β} (h : o.bind k = some r) : ∃ a, o = some a ∧ k a = some r := by
  cases o with
  | none => cases h
  | some a => exact ⟨a, rfl, h⟩
theorem if_p {β : Type} {c : Prop} [Decidable c] {a b : Option β} {r : β} (h : (if c then a else b) = some r) (hc : c) : a = some r := by rwa [if_pos hc] at h
theorem if_n {β : Type} {c : Prop} [Decidable c] {a b : Option β} {r : β} (h : (if c then a else b) = some r) (hc : ¬ c) : b = some r := by rwa [if_neg hc] at h
def st2 {α : Type} (L : Nat → Nat → α) (a : Nat) (f : Nat → α) : Nat → Nat → α := fun b => if b = a then f else L b
-- ===== the numbers that are the same in a whole run =====
abbrev Gl : Type := va_G × (ClassId × ClassId × ClassId) × (Nat → Nat) × (Nat → Nat) × (Nat × Nat × Nat × Option Nat)
abbrev gI (g : Gl) : ClassId := g.2.1.1
abbrev gJ (g : Gl) : ClassId := g.2.1.2.1
abbrev gS (g : Gl) : ClassId := g.2.1.2.2
abbrev gTy (g : Gl) : List (ClassId × FieldType) := [(gI g, .int), (gJ g, .long), (gS g, .object RX2)]
def tabA (j : Nat) : Int32 := ([-1, 0, 0, 0, 1, 2] : List Int32).getD j 0
def tabL (j : Nat) : Int32 := ([0, 0, 1, 0] : List Int32).getD j 0
def tabM (j : Nat) : Int32 := ([12, 9999, 3, 2] : List Int32).getD j 0
-- the texts, by their numbers
def nJS : Nat := 12
def lenJS : List Nat := [6, 7, 3, 3, 4, 4, 2, 5, 3, 4, 3, 4]
def bytJS : List (List Int32) := [[107, 101, 101, 112, 101, 114], [98, 114, 111, 116, 104, 101, 114], [111, 108, 100], [110, 101, 119], [116, 119, 105, 110], [109, 97, 116, 101], [111, 110], [107, 110, 111, 119, 115], [115, 101, 97], [114, 111, 99, 107], [111, 105, 108], [98, 101, 100, 115]]
/-- what stands in the static fields and is written by nobody -/
def Sts (g : Gl) (A : Nat → Prop) (U : State) (H : Heap) : Prop :=
  (va_Z "ReliefGales$Kinds" "ABOVE" "[I" (.ref g.2.2.2.2.1) A U H ∧ va_T .int g.2.2.2.2.1 6 (fun j => .int (tabA j)) A U H) ∧
  (va_Z "ReliefGales" "LEAST" "[I" (.ref g.2.2.2.2.2.1) A U H ∧ va_T .int g.2.2.2.2.2.1 4 (fun j => .int (tabL j)) A U H) ∧
  (va_Z "ReliefGales" "MOST" "[I" (.ref g.2.2.2.2.2.2.1) A U H ∧ va_T .int g.2.2.2.2.2.2.1 4 (fun j => .int (tabM j)) A U H) ∧
  (vk_S nJS lenJS bytJS g.2.2.1 g.2.2.2.1 A U H ∧ va_Z "java/lang/String" "COMPACT_STRINGS" "Z" (.int 1) A U H ∧ va_Z "jdk/internal/util/Preconditions" "SIOOBE_FORMATTER" "Ljava/util/function/BiFunction;" (va_rf g.2.2.2.2.2.2.2) A U H)
theorem Sts.moved {g : Gl} {A : Nat → Prop} {u U : State} {H : Heap} (hvm : u.vm.Alike U.vm) (h : Sts g A u H) : Sts g A U H := by
  obtain ⟨⟨a1, a2⟩, ⟨b1, b2⟩, ⟨c1, c2⟩, d1, d2, d3⟩ := h
  exact ⟨⟨a1.moved hvm, a2.moved hvm⟩, ⟨b1.moved hvm, b2.moved hvm⟩, ⟨c1.moved hvm, c2.moved hvm⟩, d1.moved hvm, d2.moved hvm, d3.moved hvm⟩
theorem Sts.kept {g : Gl} {A : Nat → Prop} {U : State} {H H1 : Heap} (h : Sts g A U H) (hq : ∀ a : Nat, a < H.size → ¬ A a → H1[a]? = H[a]?) : Sts g A U H1 := by
  obtain ⟨⟨a1, a2⟩, ⟨b1, b2⟩, ⟨c1, c2⟩, d1, d2, d3⟩ := h
  exact ⟨⟨a1.kept hq, a2.kept hq⟩, ⟨b1.kept hq, b2.kept hq⟩, ⟨c1.kept hq, c2.kept hq⟩, d1.kept hq, d2.kept hq, d3.kept hq⟩
theorem Sts.narrow {g : Gl} {A B : Nat → Prop} {U : State} {H : Heap} (h : Sts g A U H) (hq : ∀ q, B q → A q) : Sts g B U H := by
  obtain ⟨⟨a1, a2⟩, ⟨b1, b2⟩, ⟨c1, c2⟩, d1, d2, d3⟩ := h
  exact ⟨⟨a1.narrow hq, a2.narrow hq⟩, ⟨b1.narrow hq, b2.narrow hq⟩, ⟨c1.narrow hq, c2.narrow hq⟩, d1.narrow hq, d2.narrow hq, d3.narrow hq⟩
/-- links of nest mates, and the texts' references -/
def Nst (g : Gl) (U : State) : Prop :=
  va_Nw (.methodLinkNest RX5 28 yX3_init RX5) U ∧ va_Nw (.methodLinkNest RX5 39 yX2_init RX5) U ∧ va_Nw (.methodLinkNest RX1 78 yX5_within RX5) U ∧ va_Nw (.methodLinkNest RX2 28 yX5_within RX5) U ∧ va_Nw (.methodLinkNest RX3 57 yX5_within RX5) U ∧ va_Nw (.methodLinkNest RX4 56 yX5_within RX5) U ∧ va_Nw (.fieldLinkNest RX4 60 "ReliefGales" "LEAST" "[I" RX5) U ∧ va_Nw (.fieldLinkNest RX4 64 "ReliefGales" "MOST" "[I" RX5) U ∧ vk_R RX4 77 "keeper" (g.2.2.1 0) U ∧ vk_R RX4 82 "brother" (g.2.2.1 1) U ∧ vk_R RX4 84 "old" (g.2.2.1 2) U ∧ vk_R RX4 86 "new" (g.2.2.1 3) U ∧ vk_R RX4 88 "twin" (g.2.2.1 4) U ∧ vk_R RX4 90 "mate" (g.2.2.1 5) U ∧ vk_R RX4 96 "on" (g.2.2.1 6) U ∧ vk_R RX4 101 "knows" (g.2.2.1 7) U ∧ vk_R RX4 38 "sea" (g.2.2.1 8) U ∧ vk_R RX4 47 "rock" (g.2.2.1 9) U ∧ vk_R RX4 52 "oil" (g.2.2.1 10) U ∧ vk_R RX4 54 "beds" (g.2.2.1 11) U
theorem Nst.warm {g : Gl} {s U : State} (hW : s.WarmedH U.vm) (h : Nst g s) : Nst g U := by
  obtain ⟨n0, n1, n2, n3, n4, n5, n6, n7, v0, v1, v2, v3, v4, v5, v6, v7, v8, v9, v10, v11⟩ := h
  exact ⟨n0.warmM hW, n1.warmM hW, n2.warmM hW, n3.warmM hW, n4.warmM hW, n5.warmM hW, n6.warmF hW, n7.warmF hW, v0.warm hW, v1.warm hW, v2.warm hW, v3.warm hW, v4.warm hW, v5.warm hW, v6.warm hW, v7.warm hW, v8.warm hW, v9.warm hW, v10.warm hW, v11.warm hW⟩
theorem Nst.same {g : Gl} {u U : State} (hv : u.vm = U.vm) (h : Nst g u) : Nst g U := by
  obtain ⟨n0, n1, n2, n3, n4, n5, n6, n7, v0, v1, v2, v3, v4, v5, v6, v7, v8, v9, v10, v11⟩ := h
  exact ⟨n0.same rfl hv, n1.same rfl hv, n2.same rfl hv, n3.same rfl hv, n4.same rfl hv, n5.same rfl hv, n6.same rfl hv, n7.same rfl hv, v0.same hv.symm, v1.same hv.symm, v2.same hv.symm, v3.same hv.symm, v4.same hv.symm, v5.same hv.symm, v6.same hv.symm, v7.same hv.symm, v8.same hv.symm, v9.same hv.symm, v10.same hv.symm, v11.same hv.symm⟩
def Ev (g : Gl) (A : Nat → Prop) (U : State) (H : Heap) : Prop := va_K g.1 vwCl (gTy g) U ∧ Sts g A U H ∧ Nst g U
theorem Ev.warm {g : Gl} {A : Nat → Prop} {s U : State} {H : Heap} (hW : s.WarmedH U.vm) (h : Ev g A s H) : Ev g A U H := ⟨h.1.moved hW.alike, h.2.1.moved hW.alike, h.2.2.warm hW⟩
theorem Ev.same {g : Gl} {A : Nat → Prop} {u U : State} {H : Heap} (hv : u.vm = U.vm) (h : Ev g A u H) : Ev g A U H := by
  have ha : u.vm.Alike U.vm := by rw [hv]; exact Vm.Alike.refl U.vm
  exact ⟨h.1.moved ha, h.2.1.moved ha, h.2.2.same hv⟩
theorem Ev.kept {g : Gl} {A : Nat → Prop} {U : State} {H H1 : Heap} (h : Ev g A U H) (hq : ∀ a : Nat, a < H.size → ¬ A a → H1[a]? = H[a]?) : Ev g A U H1 := ⟨h.1, h.2.1.kept hq, h.2.2⟩
theorem Ev.narrow {g : Gl} {A B : Nat → Prop} {U : State} {H : Heap} (h : Ev g A U H) (hq : ∀ q, B q → A q) : Ev g B U H := ⟨h.1, h.2.1.narrow hq, h.2.2⟩
-- ===== contracts =====
def Pre (g : Gl) (w : va_W) (sz : Nat) (U : State) : Prop := U.heap.size = sz ∧ va_P g.1 vwCl w U.heap ∧ va_D (fun _ => True) w ∧ Ev g (va_A w sz) U U.heap
def Po (g : Gl) (A : Nat → Prop) (w : va_W) (t : State) : Prop := va_P g.1 vwCl w t.heap ∧ va_D A w
theorem Pre.blind {g : Gl} {w : va_W} {sz : Nat} {av : List Value} : FrameBlind (va_Pc av (Pre g w sz)) := fun _ _ _ _ q => ⟨q.1, q.2.1, q.2.2.1, q.2.2.2.1, q.2.2.2.2.same rfl⟩
abbrev MetI (l : Launch) (y : MethodName) (ws : List Cond) (rm : Room) (av : List Value) (g : Gl) (w : va_W) (sz : Nat) (r : Int32) (w' : va_W) : Prop := Met l y ws rm (va_Pc av (Pre g w sz)) (va_Qi (fun (r' : Int32) (_ : Unit) => r' = r) (fun _ t => Po g (va_A w sz) w' t) (va_A w sz)) 0 0 (va_A w sz)
abbrev MetJ (l : Launch) (y : MethodName) (ws : List Cond) (rm : Room) (av : List Value) (g : Gl) (w : va_W) (sz : Nat) (r : Int64) (w' : va_W) : Prop := Met l y ws rm (va_Pc av (Pre g w sz)) (va_Ql (fun (r' : Int64) (_ : Unit) => r' = r) (fun _ t => Po g (va_A w sz) w' t) (va_A w sz)) 0 0 (va_A w sz)
abbrev MetV (l : Launch) (y : MethodName) (ws : List Cond) (rm : Room) (av : List Value) (g : Gl) (w : va_W) (sz : Nat) (w' : va_W) : Prop := Met l y ws rm (va_Pc av (Pre g w sz)) (va_Qv (fun (_ : Unit) => True) (fun _ t => Po g (va_A w sz) w' t) (va_A w sz)) 0 0 (va_A w sz)
-- a method that writes nothing
abbrev MetPI (l : Launch) (y : MethodName) (ws : List Cond) (rm : Room) (av : List Value) (g : Gl) (w : va_W) (sz : Nat) (r : Int32) : Prop := Met l y ws rm (va_Pc av (Pre g w sz)) (QcRead r) 0 0 (fun _ => False)
def QcReadJ (r : Int64) : Array Value → State → Outcome → State → Prop := fun _ st o t => o = .returned (some (.long r)) ∧ t.heap = st.heap
abbrev MetPJ (l : Launch) (y : MethodName) (ws : List Cond) (rm : Room) (av : List Value) (g : Gl) (w : va_W) (sz : Nat) (r : Int64) : Prop := Met l y ws rm (va_Pc av (Pre g w sz)) (QcReadJ r) 0 0 (fun _ => False)
def QcReadV : Array Value → State → Outcome → State → Prop := fun _ st o t => o = .returned none ∧ t.heap = st.heap
abbrev MetPV (l : Launch) (y : MethodName) (ws : List Cond) (rm : Room) (av : List Value) (g : Gl) (w : va_W) (sz : Nat) : Prop := Met l y ws rm (va_Pc av (Pre g w sz)) QcReadV 0 0 (fun _ => False)
-- ===== the context of a walk =====
def Cx (p : Program) (s : State) (m : MethodId) (args : Array Value) (meth : Method) (c : Code) (cc : ByteArray) (nL : Nat) (ret : Option FieldType) (own : String) : Prop :=
  p.tables.exec = Jvm.exec ∧ c.code = cc ∧ c.maxLocals = nL ∧ s.vm.findClass own = some m.cls ∧ (∀ w ∈ wsL_law, w.before args s = true) ∧ meth.sig.returnType = ret ∧ meth.locks = false
def Hp (g : Gl) (A : Nat → Prop) (s : State) (H : Heap) (locs : List Loc) (ws : va_W) : Prop := va_P g.1 vwCl ws H ∧ va_D A ws ∧ va_S A s.heap H locs
theorem openW {l : Launch} {y : MethodName} {cc : ByteArray} {maxL : Nat} {ret : Option FieldType} {rm : Room} {Qc : Array Value → State → Outcome → State → Prop} {mc ms : Nat} {free : Addr → Prop} {g : Gl} {av : List Value} {w : va_W} {sz : Nat} (hy : plainFor y = true) (hav : (lg_sl av).length ≤ maxL)
    (body : ∀ (p : Program) (e : Env) (s : State) (m : MethodId) (args : Array Value) (below : List Frame) (meth : Method) (c : Code), Cx p s m args meth c cc maxL ret y.cls → Ev g (va_A w sz) s s.heap → (∀ q : Nat, s.heap.size ≤ q → va_A w sz q) → Hp g (va_A w sz) s s.heap [] w →
      ∀ ls : Array Slot, lv_has ls maxL (lv_args 0 av) → W p l e rm s m args below meth c s.heap [] 0 0 (MQ below Qc args s mc ms free) (F0 m 0 ls [])) : Met l y (Cond.code y cc maxL ret :: wsL_law) rm (va_Pc av (Pre g w sz)) Qc mc ms free := by
  refine va_MetF (cc := cc) (maxL := maxL) (ret := ret) hy rfl ?_
  intro p e s m args below meth c s₁ B hml hv
  obtain ⟨rfl, hsz, hP, hD0, hE⟩ := hv
  have hts := atoms_spec (ws := Cond.code y cc maxL ret :: wsL_law) B.pre
  subst hsz
  rw [lg_entry_eq]
  exact body p e s m _ below meth c ⟨B.exec, B.bytes, hml, findClass_of_methodNamed B.named, fun w h => hts w (List.mem_cons_of_mem _ h), B.returns, B.notSynchronized⟩ hE (fun q h => Or.inr h) ⟨hP, hD0.self, va_S.rf⟩ _ (lv_entry av hav)
