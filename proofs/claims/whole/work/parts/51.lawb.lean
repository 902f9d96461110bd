/-! the law's helpers: a call caught; their worlds, their ends -/
def OUT (T : Nat → ClassId) (q : Nat) (f : Nat → Int64) : Nat × va_E := (q, .inl (T 3, 1, .inr (.inl f)))
theorem Foc.cons (x : Nat × va_E) (w w1 : va_W) : Foc (x :: w) w (x :: w1) w1 := ⟨[x], List.perm_append_comm (l₁ := [x]) (l₂ := w), List.perm_append_comm (l₁ := [x]) (l₂ := w1)⟩
/-- the place in the throw's list -/
def kC (e1 : String) : Option String → Int32
  | none => 0
  | some E => if E = e1 then 1 else 2
def wC (a b : va_W) : Option String → va_W
  | none => a
  | some _ => b
def oneOf (e1 e2 : String) (cd : Option String) : Prop := ∀ E, cd = some E → E = e1 ∨ E = e2
theorem oneOf_chk {b : Bool} {E e1 e2 : String} (h : E = e1 ∨ E = e2) : oneOf e1 e2 (chkB b E) := by
  intro E' hE
  cases b with
  | true => cases hE
  | false => cases hE; exact h
theorem oneOf_or {a k : Option String} {e1 e2 : String} (h1 : oneOf e1 e2 a) (h2 : oneOf e1 e2 k) : oneOf e1 e2 (orE a k) := by
  intro E hE
  cases a with
  | none => exact h2 E hE
  | some E' => exact h1 E hE
/-- none of the four is another's -/
def NCX (U : State) : Prop := ∀ E ∈ exL, ∀ E' ∈ exL, E ≠ E' → va_Nc E E' U
theorem NCX.moved {u U : State} (hv : u.vm.Alike U.vm) (h : NCX u) : NCX U := fun E hE E' hE' hne => va_Nc.moved hv (h E hE E' hE' hne)
theorem cast_self {s : State} {args : Array Value} (h : CXT s) : ∀ E ∈ exL, (Cond.castable E E).before args s = true := by
  have hm : ∀ E ∈ exL, Cond.castable E E ∈ badW E := by decide +kernel
  exact fun E hE => h.use hE _ (hm E hE)
section LH
variable {l : Launch} {y : MethodName} {ws ws' : List Cond} {rm : Room} {as : List Value} {D : va_G} {T : Nat → ClassId} {w w1 : va_W} {cc : ByteArray} {maxL : Nat} {sz mc ms : Nat} {aK aV : Nat → Nat}
theorem Met_ofWH {Pc : Array Value → State → Prop} {Qc : Array Value → State → Outcome → State → Prop} {free : Addr → Prop} {ret : Option FieldType} {hh : List (Nat × Nat × Nat × Nat)}
    (hy : plainName y.cls = true) (hw : ws = Cond.codeWith y cc maxL ret hh :: ws')
    (body : ∀ p e s m args below meth c s₁, BodyLoose p l y (headSpec ws rm) cc maxL ret e s m args below meth c s₁ → c.maxLocals = maxL → Pc args s →
      W p l e (headSpec ws rm).room s m args below meth c s.heap [] 0 0 (MQ below Qc args s mc ms free) (entryFrame m args maxL)) : Met l y ws rm Pc Qc mc ms free := by
  refine MetFree.of_bodyS (code := cc) (maxLocals := maxL) (ret := ret) hy ?_ ?_
  · intro args s m h hn
    obtain ⟨m9, meth, c, hn9, h1, h2, h3, h4, -, h5, h6, -⟩ := Cond.codeWith_spec (atoms_spec (ws := ws) h _ (by rw [hw]; exact List.mem_cons_self))
    cases hn.symm.trans hn9
    exact ⟨meth, c, h1, h2, h3, h4, h5, h6⟩
  · intro p e s m args below meth c s₁ B hml hP _
    have hh0 : s₁.heap = s.heap := by rw [B.state]; rfl
    obtain ⟨t, a1, o, b1, b2, b3, b4⟩ := body p e s m args below meth c s₁ B hml hP s₁ hh0 (Stand.of_body B)
    exact ⟨t, o, a1, b1, b2, b3, b4⟩
theorem metLi {r : Int32} {hh : List (Nat × Nat × Nat × Nat)} (hy : plainName y.cls = true) (hw : ws = Cond.codeWith y cc maxL (some .int) hh :: ws') (hlen : (lg_sl as).length ≤ maxL)
    (body : ∀ (p : Program) (e : Env) (s : State) (m : MethodId) (args : Array Value) (below : List Frame) (meth : Method) (c : Code) (Q : State → Prop) (ls : Array Slot) (A : Nat → Prop), p.tables.exec = Jvm.exec → c.code = cc → c.maxLocals = maxL → s.vm.findClass y.cls = some m.cls → (∀ q ∈ ws, q.before args s = true) → c.exceptionTable.toList = tableOf hh → NCX s → CX aK aV A s s.heap → va_P D vwCl w s.heap → va_K D vwCl (tyL T) s → va_D A w → (∀ q : Nat, s.heap.size ≤ q → A q) → va_S A s.heap s.heap [] → lv_has ls maxL (lv_args 0 as) →
      (∀ (H : Heap) (locs : List Loc) (ls : Array Slot) (pc : Nat), decode cc pc = .ok (.ireturn, 1) → va_P D vwCl w1 H → va_D A w1 → va_S A s.heap H locs → W p l e rm s m args below meth c H locs mc ms Q (F0 m pc ls [.int r])) →
      W p l e rm s m args below meth c s.heap [] 0 0 Q (F0 m 0 ls [])) : Met l y ws rm (va_Pc as (fun U => PSc D T aK aV w sz U ∧ NCX U)) (va_Qi (fun r' (_ : Unit) => r' = r) (fun _ t => QS D T (va_A w sz) w1 t) (va_A w sz)) mc ms (va_A w sz) := by
  refine Met_ofWH (cc := cc) (maxL := maxL) (ret := some .int) hy hw ?_
  intro p e s m args below meth c s₁ B hml hv
  obtain ⟨rfl, ⟨⟨hsz, hP, hK, hD0⟩, hC⟩, hNC⟩ := hv
  subst hsz
  have hts := atoms_spec (ws := ws) B.pre
  have htab := vx_table (x := y) B (hts _ (by rw [hw]; exact List.mem_cons_self))
  have hown : s.vm.findClass y.cls = some m.cls := findClass_of_methodNamed B.named
  have hlocks := B.notSynchronized
  have hl := lv_entry as (n := maxL) hlen
  rw [lg_entry_eq]
  refine body p e s m _ below meth c _ _ (va_A w s.heap.size) B.exec B.bytes hml hown hts htab hNC hC hP hK (hD0.self (sz := s.heap.size)) (fun q h => Or.inr h) va_S.rf hl (fun H locs ls pc hd hP1 hD1 hS => ?_)
  exact W.zret B.exec B.bytes B.returns rfl (fun t ht hW => ⟨⟨r, (), rfl, rfl, by rw [ht]; exact hP1, va_K.moved hW.alike hK, hD1⟩, hS.F ht⟩) hS.2.2 hd
end LH
