def FU : Nat := 4000
def bind2 {α1 α2 β : Type} (o : Option (α1 × α2)) (k : α1 → α2 → Option β) : Option β := o.bind (fun q => k q.1 q.2)
theorem bind2_inv {α1 α2 β : Type} {o : Option (α1 × α2)} {k : α1 → α2 → Option β} {r : β} (h : bind2 o k = some r) : ∃ a1 a2, o = some (a1, a2) ∧ k a1 a2 = some r := by
  cases o with
  | none => cases h
  | some q => exact ⟨q.1, q.2, rfl, h⟩
def bind3 {α1 α2 α3 β : Type} (o : Option (α1 × α2 × α3)) (k : α1 → α2 → α3 → Option β) : Option β := o.bind (fun q => k q.1 q.2.1 q.2.2)
theorem bind3_inv {α1 α2 α3 β : Type} {o : Option (α1 × α2 × α3)} {k : α1 → α2 → α3 → Option β} {r : β} (h : bind3 o k = some r) : ∃ a1 a2 a3, o = some (a1, a2, a3) ∧ k a1 a2 a3 = some r := by
  cases o with
  | none => cases h
  | some q => exact ⟨q.1, q.2.1, q.2.2, rfl, h⟩
def bind4 {α1 α2 α3 α4 β : Type} (o : Option (α1 × α2 × α3 × α4)) (k : α1 → α2 → α3 → α4 → Option β) : Option β := o.bind (fun q => k q.1 q.2.1 q.2.2.1 q.2.2.2)
theorem bind4_inv {α1 α2 α3 α4 β : Type} {o : Option (α1 × α2 × α3 × α4)} {k : α1 → α2 → α3 → α4 → Option β} {r : β} (h : bind4 o k = some r) : ∃ a1 a2 a3 a4, o = some (a1, a2, a3, a4) ∧ k a1 a2 a3 a4 = some r := by
  cases o with
  | none => cases h
  | some q => exact ⟨q.1, q.2.1, q.2.2.1, q.2.2.2, rfl, h⟩
def bind5 {α1 α2 α3 α4 α5 β : Type} (o : Option (α1 × α2 × α3 × α4 × α5)) (k : α1 → α2 → α3 → α4 → α5 → Option β) : Option β := o.bind (fun q => k q.1 q.2.1 q.2.2.1 q.2.2.2.1 q.2.2.2.2)
theorem bind5_inv {α1 α2 α3 α4 α5 β : Type} {o : Option (α1 × α2 × α3 × α4 × α5)} {k : α1 → α2 → α3 → α4 → α5 → Option β} {r : β} (h : bind5 o k = some r) : ∃ a1 a2 a3 a4 a5, o = some (a1, a2, a3, a4, a5) ∧ k a1 a2 a3 a4 a5 = some r := by
  cases o with
  | none => cases h
  | some q => exact ⟨q.1, q.2.1, q.2.2.1, q.2.2.2.1, q.2.2.2.2, rfl, h⟩
def bind6 {α1 α2 α3 α4 α5 α6 β : Type} (o : Option (α1 × α2 × α3 × α4 × α5 × α6)) (k : α1 → α2 → α3 → α4 → α5 → α6 → Option β) : Option β := o.bind (fun q => k q.1 q.2.1 q.2.2.1 q.2.2.2.1 q.2.2.2.2.1 q.2.2.2.2.2)
theorem bind6_inv {α1 α2 α3 α4 α5 α6 β : Type} {o : Option (α1 × α2 × α3 × α4 × α5 × α6)} {k : α1 → α2 → α3 → α4 → α5 → α6 → Option β} {r : β} (h : bind6 o k = some r) : ∃ a1 a2 a3 a4 a5 a6, o = some (a1, a2, a3, a4, a5, a6) ∧ k a1 a2 a3 a4 a5 a6 = some r := by
  cases o with
  | none => cases h
  | some q => exact ⟨q.1, q.2.1, q.2.2.1, q.2.2.2.1, q.2.2.2.2.1, q.2.2.2.2.2, rfl, h⟩
abbrev QPI (below : List Frame) (args : Array Value) (s : State) (r : Int32) : State → Prop := MQ below (QcRead r) args s 0 0 (fun _ => False)
abbrev QPJ (below : List Frame) (args : Array Value) (s : State) (r : Int64) : State → Prop := MQ below (QcReadJ r) args s 0 0 (fun _ => False)
abbrev QI (g : Gl) (A : Nat → Prop) (below : List Frame) (args : Array Value) (s : State) (r : Int32) (w' : va_W) : State → Prop := MQ below (va_Qi (fun (r' : Int32) (_ : Unit) => r' = r) (fun _ t => Po g A w' t) A) args s 0 0 A
abbrev QJ (g : Gl) (A : Nat → Prop) (below : List Frame) (args : Array Value) (s : State) (r : Int64) (w' : va_W) : State → Prop := MQ below (va_Ql (fun (r' : Int64) (_ : Unit) => r' = r) (fun _ t => Po g A w' t) A) args s 0 0 A
abbrev QV (g : Gl) (A : Nat → Prop) (below : List Frame) (args : Array Value) (s : State) (w' : va_W) : State → Prop := MQ below (va_Qv (fun (_ : Unit) => True) (fun _ t => Po g A w' t) A) args s 0 0 A
theorem openPI {l : Launch} {y : MethodName} {cc : ByteArray} {maxL : Nat} {ret : Option FieldType} {rm : Room} {g : Gl} {av : List Value} {w : va_W} {sz : Nat} {r : Int32} (hy : plainFor y = true) (hav : (lg_sl av).length ≤ maxL) (body : ∀ (p : Program) (e : Env) (s : State) (m : MethodId) (args : Array Value) (below : List Frame) (meth : Method) (c : Code) (A : Nat → Prop), Cx p s m args meth c cc maxL ret y.cls → Ev g A s s.heap → (∀ q : Nat, s.heap.size ≤ q → A q) → Hp g A s s.heap [] w → ∀ ls : Array Slot, lv_has ls maxL (lv_args 0 av) → W p l e rm s m args below meth c s.heap [] 0 0 (QPI below args s r ) (F0 m 0 ls [])) : MetPI l y (Cond.code y cc maxL ret :: wsL_law) rm av g w sz r  :=
  openW hy hav (fun p e s m args below meth c C hE hA hH ls hl => body p e s m args below meth c (va_A w sz) C hE hA hH ls hl)
theorem openPJ {l : Launch} {y : MethodName} {cc : ByteArray} {maxL : Nat} {ret : Option FieldType} {rm : Room} {g : Gl} {av : List Value} {w : va_W} {sz : Nat} {r : Int64} (hy : plainFor y = true) (hav : (lg_sl av).length ≤ maxL) (body : ∀ (p : Program) (e : Env) (s : State) (m : MethodId) (args : Array Value) (below : List Frame) (meth : Method) (c : Code) (A : Nat → Prop), Cx p s m args meth c cc maxL ret y.cls → Ev g A s s.heap → (∀ q : Nat, s.heap.size ≤ q → A q) → Hp g A s s.heap [] w → ∀ ls : Array Slot, lv_has ls maxL (lv_args 0 av) → W p l e rm s m args below meth c s.heap [] 0 0 (QPJ below args s r ) (F0 m 0 ls [])) : MetPJ l y (Cond.code y cc maxL ret :: wsL_law) rm av g w sz r  :=
  openW hy hav (fun p e s m args below meth c C hE hA hH ls hl => body p e s m args below meth c (va_A w sz) C hE hA hH ls hl)
theorem openI {l : Launch} {y : MethodName} {cc : ByteArray} {maxL : Nat} {ret : Option FieldType} {rm : Room} {g : Gl} {av : List Value} {w w' : va_W} {sz : Nat} {r : Int32} (hy : plainFor y = true) (hav : (lg_sl av).length ≤ maxL) (body : ∀ (p : Program) (e : Env) (s : State) (m : MethodId) (args : Array Value) (below : List Frame) (meth : Method) (c : Code) (A : Nat → Prop), Cx p s m args meth c cc maxL ret y.cls → Ev g A s s.heap → (∀ q : Nat, s.heap.size ≤ q → A q) → Hp g A s s.heap [] w → ∀ ls : Array Slot, lv_has ls maxL (lv_args 0 av) → W p l e rm s m args below meth c s.heap [] 0 0 (QI g A below args s r w') (F0 m 0 ls [])) : MetI l y (Cond.code y cc maxL ret :: wsL_law) rm av g w sz r w' :=
  openW hy hav (fun p e s m args below meth c C hE hA hH ls hl => body p e s m args below meth c (va_A w sz) C hE hA hH ls hl)
theorem openJ {l : Launch} {y : MethodName} {cc : ByteArray} {maxL : Nat} {ret : Option FieldType} {rm : Room} {g : Gl} {av : List Value} {w w' : va_W} {sz : Nat} {r : Int64} (hy : plainFor y = true) (hav : (lg_sl av).length ≤ maxL) (body : ∀ (p : Program) (e : Env) (s : State) (m : MethodId) (args : Array Value) (below : List Frame) (meth : Method) (c : Code) (A : Nat → Prop), Cx p s m args meth c cc maxL ret y.cls → Ev g A s s.heap → (∀ q : Nat, s.heap.size ≤ q → A q) → Hp g A s s.heap [] w → ∀ ls : Array Slot, lv_has ls maxL (lv_args 0 av) → W p l e rm s m args below meth c s.heap [] 0 0 (QJ g A below args s r w') (F0 m 0 ls [])) : MetJ l y (Cond.code y cc maxL ret :: wsL_law) rm av g w sz r w' :=
  openW hy hav (fun p e s m args below meth c C hE hA hH ls hl => body p e s m args below meth c (va_A w sz) C hE hA hH ls hl)
theorem openV {l : Launch} {y : MethodName} {cc : ByteArray} {maxL : Nat} {ret : Option FieldType} {rm : Room} {g : Gl} {av : List Value} {w w' : va_W} {sz : Nat}  (hy : plainFor y = true) (hav : (lg_sl av).length ≤ maxL) (body : ∀ (p : Program) (e : Env) (s : State) (m : MethodId) (args : Array Value) (below : List Frame) (meth : Method) (c : Code) (A : Nat → Prop), Cx p s m args meth c cc maxL ret y.cls → Ev g A s s.heap → (∀ q : Nat, s.heap.size ≤ q → A q) → Hp g A s s.heap [] w → ∀ ls : Array Slot, lv_has ls maxL (lv_args 0 av) → W p l e rm s m args below meth c s.heap [] 0 0 (QV g A below args s  w') (F0 m 0 ls [])) : MetV l y (Cond.code y cc maxL ret :: wsL_law) rm av g w sz  w' :=
  openW hy hav (fun p e s m args below meth c C hE hA hH ls hl => body p e s m args below meth c (va_A w sz) C hE hA hH ls hl)
abbrev QPV (below : List Frame) (args : Array Value) (s : State) : State → Prop := MQ below QcReadV args s 0 0 (fun _ => False)
theorem openPV {l : Launch} {y : MethodName} {cc : ByteArray} {maxL : Nat} {ret : Option FieldType} {rm : Room} {g : Gl} {av : List Value} {w : va_W} {sz : Nat}  (hy : plainFor y = true) (hav : (lg_sl av).length ≤ maxL) (body : ∀ (p : Program) (e : Env) (s : State) (m : MethodId) (args : Array Value) (below : List Frame) (meth : Method) (c : Code) (A : Nat → Prop), Cx p s m args meth c cc maxL ret y.cls → Ev g A s s.heap → (∀ q : Nat, s.heap.size ≤ q → A q) → Hp g A s s.heap [] w → ∀ ls : Array Slot, lv_has ls maxL (lv_args 0 av) → W p l e rm s m args below meth c s.heap [] 0 0 (QPV below args s) (F0 m 0 ls [])) : MetPV l y (Cond.code y cc maxL ret :: wsL_law) rm av g w sz :=
  openW hy hav (fun p e s m args below meth c C hE hA hH ls hl => body p e s m args below meth c (va_A w sz) C hE hA hH ls hl)
