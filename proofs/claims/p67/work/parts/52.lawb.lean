/-! the law's methods: what they find, calls, ends, a throw caught -/
/-- what a call of the law answers: the number itself, or which throw -/
def kE (r : Int32) : Option String → Int32
  | none => r
  | some E => if E = "java/util/NoSuchElementException" then -101 else if E = "java/lang/IllegalStateException" then -102 else if E = "java/lang/IllegalArgumentException" then -103 else -104
def wC (a b : va_W) : Option String → va_W
  | none => a
  | some _ => b
def okX (cd : Option String) : Prop := ∀ E, cd = some E → E ∈ exL
theorem okX_chk {b : Bool} {E : String} (h : E ∈ exL) : okX (chkB b E) := by
  intro E' hE
  cases b with
  | true => cases hE
  | false => cases hE; exact h
theorem okX_or {a k : Option String} (h1 : okX a) (h2 : okX k) : okX (orE a k) := by
  intro E hE
  cases a with
  | none => exact h2 E hE
  | some E' => exact h1 E hE
theorem okX_none : okX none := fun _ h => by cases h
/-- none of the four is another's -/
def NCX (U : State) : Prop := ∀ E ∈ exL, ∀ E' ∈ exL, E ≠ E' → va_Nc E E' U
theorem NCX.moved {u U : State} (hv : u.vm.Alike U.vm) (h : NCX u) : NCX U := fun E hE E' hE' hne => va_Nc.moved hv (h E hE E' hE' hne)
theorem cast_self {s : State} {args : Array Value} (h : CXT s) : ∀ E ∈ exL, (Cond.castable E E).before args s = true := by
  have hm : ∀ E ∈ exL, Cond.castable E E ∈ badW E := by decide +kernel
  exact fun E hE => h.use hE _ (hm E hE)
/-- what a method of the law finds -/
def LWP (D : va_G) (T : Nat → ClassId) (aK aV : Nat → Nat) (ws : va_W) (sz : Nat) (U : State) : Prop := PSc D T aK aV ws sz U ∧ NCX U
theorem LWP.blind (as : List Value) (D : va_G) (T : Nat → ClassId) (aK aV : Nat → Nat) (ws : va_W) (sz : Nat) : FrameBlind (va_Pc as (LWP D T aK aV ws sz)) := fun a U g mk q =>
  ⟨q.1, (PSc.blind as D T aK aV ws sz a U g mk ⟨q.1, q.2.1⟩).2, NCX.moved (u := U) (U := U.calling g mk a) (Vm.Alike.refl U.vm) q.2.2⟩
theorem Foc.pre (x w w1 : va_W) : Foc (x ++ w) w (x ++ w1) w1 := ⟨x, List.perm_append_comm (l₁ := x) (l₂ := w), List.perm_append_comm (l₁ := x) (l₂ := w1)⟩
/-- a new cell to the front -/
theorem wFront {D : va_G} {cl : List vw_C} {A : Nat → Prop} {ws : va_W} {x : Nat × va_E} {H : Heap} (hP : va_P D cl (ws ++ [x]) H) (hD : va_D A (ws ++ [x])) : va_P D cl (x :: ws) H ∧ va_D A (x :: ws) :=
  ⟨wP_perm (List.perm_append_singleton x ws) hP, wD_perm (List.perm_append_singleton x ws) hD⟩
theorem wTail {D : va_G} {cl : List vw_C} {A : Nat → Prop} {x w : va_W} {H : Heap} (hP : va_P D cl (x ++ w) H) (hD : va_D A (x ++ w)) : va_P D cl w H ∧ va_D A w := ⟨(Foc.pre x w w).subP hP, (Foc.pre x w w).subD hD⟩
section LC
variable {p : Program} {l : Launch} {e : Env} {R : Room} {s : State} {m : MethodId} {args : Array Value} {below : List Frame} {meth : Method} {c : Code} {H H0 : Heap} {locs : List Loc} {cells slots : Nat} {Q : State → Prop}
  {Ts wsy : List Cond} {cc bytes : ByteArray} {nL maxL index n mc ms pc : Nat} {own : String} {y : MethodName} {ret : Option FieldType} {rm : Room} {As rest st : List Value} {ls : Array Slot}
  {D : va_G} {T : Nat → ClassId} {ws wc : va_W} {A0 : Nat → Prop} {aK aV : Nat → Nat}
/-- a call of a method of the law that answers an int; what it leaves: some u -/
theorem lcSi {S : Type} {px : Int32 → S → Prop} {ws1 wc1 : S → va_W} (S0 : CallFix p m c cc nL s args Ts own) (hM : Met l y wsy rm (va_Pc As (LWP D T aK aV wc H.size)) (va_Qi px (fun u t => QS D T (va_A wc H.size) (wc1 u) t) (va_A wc H.size)) mc ms (va_A wc H.size)) (cw : CallB R s args own index y bytes maxL ret wsy rm mc ms n ∧ (Cond.static y).before args s = true)
    (F : ∀ u, Foc ws wc (ws1 u) (wc1 u)) (F0' : Foc ws wc ws wc) (hC : CX aK aV A0 s H0) (hNC : NCX s) (hK : va_K D vwCl (tyL T) s) (hP : va_P D vwCl ws H) (hD : va_D A0 ws) (hS : va_S A0 H0 H locs) (hA : ∀ q, H0.size ≤ q → A0 q)
    (hn : As.length = n) (hsize : ls.size = nL) (hst : st = As.reverse ++ rest) (hW : (rest.map fun v => v.category).sum ≤ 8) (hcs : cells + mc ≤ R.cells ∧ slots + ms ≤ R.slots) (hdg : decode cc pc = .ok (.invokestatic index, 3))
    (kk : ∀ (r : Int32) (u : S) (H1 : Heap) (locs1 : List Loc), px r u → va_P D vwCl (ws1 u) H1 → va_D A0 (ws1 u) → va_S A0 H0 H1 locs1 → W p l e R s m args below meth c H1 locs1 (cells + mc) (slots + ms) Q (F0 m (pc + 3) ls (.int r :: rest))) : W p l e R s m args below meth c H locs cells slots Q (F0 m pc ls st) := by
  have hPc := F0'.subP hP
  have hDc := F0'.subD hD
  have hFc := F0'.free hD hS hA
  refine va_calli (va_runS S0 hM cw ⟨LWP.blind _ _ _ _ _ _ _, fun U hU hW => ⟨rfl, ⟨⟨by rw [hU], by rw [hU]; exact hPc, va_K.moved hW.alike hK, hDc.weaken (fun _ _ _ _ => trivial)⟩, hC.call hS hFc hU hW⟩, hNC.moved hW.alike⟩⟩ rfl hn hsize hst (lv_room hW) hdg hcs) hS (fun q _ h => hFc q h) hFc (fun r1 u t H1 locs1 ht hvm hw hB hz1 hk1 hS1 => ?_)
  obtain ⟨hP1, hK1, hD1⟩ := hB
  rw [ht] at hP1
  obtain ⟨g1, g2⟩ := (F u).join hP hD hk1 hFc hP1 hD1
  exact kk r1 u H1 locs1 hw g1 g2 hS1
theorem lcSl {S : Type} {px : Int64 → S → Prop} {ws1 wc1 : S → va_W} (S0 : CallFix p m c cc nL s args Ts own) (hM : Met l y wsy rm (va_Pc As (LWP D T aK aV wc H.size)) (va_Ql px (fun u t => QS D T (va_A wc H.size) (wc1 u) t) (va_A wc H.size)) mc ms (va_A wc H.size)) (cw : CallB R s args own index y bytes maxL ret wsy rm mc ms n ∧ (Cond.static y).before args s = true)
    (F : ∀ u, Foc ws wc (ws1 u) (wc1 u)) (F0' : Foc ws wc ws wc) (hC : CX aK aV A0 s H0) (hNC : NCX s) (hK : va_K D vwCl (tyL T) s) (hP : va_P D vwCl ws H) (hD : va_D A0 ws) (hS : va_S A0 H0 H locs) (hA : ∀ q, H0.size ≤ q → A0 q)
    (hn : As.length = n) (hsize : ls.size = nL) (hst : st = As.reverse ++ rest) (hW : (rest.map fun v => v.category).sum ≤ 8) (hcs : cells + mc ≤ R.cells ∧ slots + ms ≤ R.slots) (hdg : decode cc pc = .ok (.invokestatic index, 3))
    (kk : ∀ (r : Int64) (u : S) (H1 : Heap) (locs1 : List Loc), px r u → va_P D vwCl (ws1 u) H1 → va_D A0 (ws1 u) → va_S A0 H0 H1 locs1 → W p l e R s m args below meth c H1 locs1 (cells + mc) (slots + ms) Q (F0 m (pc + 3) ls (.long r :: rest))) : W p l e R s m args below meth c H locs cells slots Q (F0 m pc ls st) := by
  have hPc := F0'.subP hP
  have hDc := F0'.subD hD
  have hFc := F0'.free hD hS hA
  refine va_calll (va_runS S0 hM cw ⟨LWP.blind _ _ _ _ _ _ _, fun U hU hW => ⟨rfl, ⟨⟨by rw [hU], by rw [hU]; exact hPc, va_K.moved hW.alike hK, hDc.weaken (fun _ _ _ _ => trivial)⟩, hC.call hS hFc hU hW⟩, hNC.moved hW.alike⟩⟩ rfl hn hsize hst (lv_room hW) hdg hcs) hS (fun q _ h => hFc q h) hFc (fun r1 u t H1 locs1 ht hvm hw hB hz1 hk1 hS1 => ?_)
  obtain ⟨hP1, hK1, hD1⟩ := hB
  rw [ht] at hP1
  obtain ⟨g1, g2⟩ := (F u).join hP hD hk1 hFc hP1 hD1
  exact kk r1 u H1 locs1 hw g1 g2 hS1
/-- a question: its answer is known, nothing changes -/
theorem lqSi {r : Int32} (S0 : CallFix p m c cc nL s args Ts own) (hM : Met l y wsy rm (va_Pc As (LWP D T aK aV wc H.size)) (va_Qi (fun r' (_ : Unit) => r' = r) (fun _ t => QS D T (va_A wc H.size) wc t) (va_A wc H.size)) mc ms (va_A wc H.size)) (cw : CallB R s args own index y bytes maxL ret wsy rm mc ms n ∧ (Cond.static y).before args s = true)
    (F : Foc ws wc ws wc) (hC : CX aK aV A0 s H0) (hNC : NCX s) (hK : va_K D vwCl (tyL T) s) (hP : va_P D vwCl ws H) (hD : va_D A0 ws) (hS : va_S A0 H0 H locs) (hA : ∀ q, H0.size ≤ q → A0 q)
    (hn : As.length = n) (hsize : ls.size = nL) (hst : st = As.reverse ++ rest) (hW : (rest.map fun v => v.category).sum ≤ 8) (hcs : cells + mc ≤ R.cells ∧ slots + ms ≤ R.slots) (hdg : decode cc pc = .ok (.invokestatic index, 3))
    (kk : ∀ (H1 : Heap) (locs1 : List Loc), va_P D vwCl ws H1 → va_D A0 ws → va_S A0 H0 H1 locs1 → W p l e R s m args below meth c H1 locs1 (cells + mc) (slots + ms) Q (F0 m (pc + 3) ls (.int r :: rest))) : W p l e R s m args below meth c H locs cells slots Q (F0 m pc ls st) :=
  lcSi (ws1 := fun _ => ws) (wc1 := fun _ => wc) S0 hM cw (fun _ => F) F hC hNC hK hP hD hS hA hn hsize hst hW hcs hdg (fun r1 u H1 locs1 hr h1 h2 h3 => by subst hr; exact kk H1 locs1 h1 h2 h3)
theorem lqSl {r : Int64} (S0 : CallFix p m c cc nL s args Ts own) (hM : Met l y wsy rm (va_Pc As (LWP D T aK aV wc H.size)) (va_Ql (fun r' (_ : Unit) => r' = r) (fun _ t => QS D T (va_A wc H.size) wc t) (va_A wc H.size)) mc ms (va_A wc H.size)) (cw : CallB R s args own index y bytes maxL ret wsy rm mc ms n ∧ (Cond.static y).before args s = true)
    (F : Foc ws wc ws wc) (hC : CX aK aV A0 s H0) (hNC : NCX s) (hK : va_K D vwCl (tyL T) s) (hP : va_P D vwCl ws H) (hD : va_D A0 ws) (hS : va_S A0 H0 H locs) (hA : ∀ q, H0.size ≤ q → A0 q)
    (hn : As.length = n) (hsize : ls.size = nL) (hst : st = As.reverse ++ rest) (hW : (rest.map fun v => v.category).sum ≤ 8) (hcs : cells + mc ≤ R.cells ∧ slots + ms ≤ R.slots) (hdg : decode cc pc = .ok (.invokestatic index, 3))
    (kk : ∀ (H1 : Heap) (locs1 : List Loc), va_P D vwCl ws H1 → va_D A0 ws → va_S A0 H0 H1 locs1 → W p l e R s m args below meth c H1 locs1 (cells + mc) (slots + ms) Q (F0 m (pc + 3) ls (.long r :: rest))) : W p l e R s m args below meth c H locs cells slots Q (F0 m pc ls st) :=
  lcSl (ws1 := fun _ => ws) (wc1 := fun _ => wc) S0 hM cw (fun _ => F) F hC hNC hK hP hD hS hA hn hsize hst hW hcs hdg (fun r1 u H1 locs1 hr h1 h2 h3 => by subst hr; exact kk H1 locs1 h1 h2 h3)
/-- a number that is a double, a float, of a method of the window that leaves all as it was -/
theorem wqVd {r : UInt64} {C : String} {T' : u_T} {N' ci : Nat} {fs : List Value} {b : Addr} (S0 : CallFix p m c cc nL s args Ts own) (hM : Met l y wsy rm (va_Pc (.ref b :: As) (PS D T wc H.size)) (va_Qd (fun r' (_ : Unit) => r' = r) (fun _ t => QS D T (va_A wc H.size) wc t) (va_A wc H.size)) mc ms (va_A wc H.size)) (cw : CallW R s args own C index y bytes maxL ret wsy rm mc ms n)
    (F : Foc ws wc ws wc) (hK : va_K D vwCl (tyL T) s) (hP : va_P D vwCl ws H) (hD : va_D A0 ws) (hS : va_S A0 H0 H locs) (hA : ∀ q, H0.size ≤ q → A0 q)
    (q0 : Nat) (he : wc[q0]? = some (b, .inr (ci, fs))) (hc : vwCl[ci]? = some (C, T', N')) (hn : As.length = n) (hsize : ls.size = nL) (hst : st = As.reverse ++ .ref b :: rest) (hW : (rest.map fun v => v.category).sum ≤ 8) (hcs : cells + mc ≤ R.cells ∧ slots + ms ≤ R.slots) (hdg : decode cc pc = .ok (.invokevirtual index, 3))
    (kk : ∀ (H1 : Heap) (locs1 : List Loc), va_P D vwCl ws H1 → va_D A0 ws → va_S A0 H0 H1 locs1 → W p l e R s m args below meth c H1 locs1 (cells + mc) (slots + ms) Q (F0 m (pc + 3) ls (.double r :: rest))) : W p l e R s m args below meth c H locs cells slots Q (F0 m pc ls st) := by
  have hPc := F.subP hP
  have hDc := F.subD hD
  have hFc := F.free hD hS hA
  refine va_calld (va_runV S0 hM cw ⟨PS.blind _ _ _ _ _, va_recv hK hPc hc he, fun U hU hW => ⟨rfl, by rw [hU], by rw [hU]; exact hPc, va_K.moved hW.alike hK, hDc.weaken (fun _ _ _ _ => trivial)⟩⟩ rfl hn hsize hst (lv_room hW) hdg hcs) hS (fun q _ h => hFc q h) hFc (fun r1 u t H1 locs1 ht hvm hw hB hz1 hk1 hS1 => ?_)
  obtain ⟨hP1, hK1, hD1⟩ := hB
  rw [ht] at hP1
  obtain ⟨g1, g2⟩ := F.join hP hD hk1 hFc hP1 hD1
  subst hw
  exact kk H1 locs1 g1 g2 hS1
theorem wqVf {r : UInt32} {C : String} {T' : u_T} {N' ci : Nat} {fs : List Value} {b : Addr} (S0 : CallFix p m c cc nL s args Ts own) (hM : Met l y wsy rm (va_Pc (.ref b :: As) (PS D T wc H.size)) (va_Qf (fun r' (_ : Unit) => r' = r) (fun _ t => QS D T (va_A wc H.size) wc t) (va_A wc H.size)) mc ms (va_A wc H.size)) (cw : CallW R s args own C index y bytes maxL ret wsy rm mc ms n)
    (F : Foc ws wc ws wc) (hK : va_K D vwCl (tyL T) s) (hP : va_P D vwCl ws H) (hD : va_D A0 ws) (hS : va_S A0 H0 H locs) (hA : ∀ q, H0.size ≤ q → A0 q)
    (q0 : Nat) (he : wc[q0]? = some (b, .inr (ci, fs))) (hc : vwCl[ci]? = some (C, T', N')) (hn : As.length = n) (hsize : ls.size = nL) (hst : st = As.reverse ++ .ref b :: rest) (hW : (rest.map fun v => v.category).sum ≤ 8) (hcs : cells + mc ≤ R.cells ∧ slots + ms ≤ R.slots) (hdg : decode cc pc = .ok (.invokevirtual index, 3))
    (kk : ∀ (H1 : Heap) (locs1 : List Loc), va_P D vwCl ws H1 → va_D A0 ws → va_S A0 H0 H1 locs1 → W p l e R s m args below meth c H1 locs1 (cells + mc) (slots + ms) Q (F0 m (pc + 3) ls (.float r :: rest))) : W p l e R s m args below meth c H locs cells slots Q (F0 m pc ls st) := by
  have hPc := F.subP hP
  have hDc := F.subD hD
  have hFc := F.free hD hS hA
  refine va_callf (va_runV S0 hM cw ⟨PS.blind _ _ _ _ _, va_recv hK hPc hc he, fun U hU hW => ⟨rfl, by rw [hU], by rw [hU]; exact hPc, va_K.moved hW.alike hK, hDc.weaken (fun _ _ _ _ => trivial)⟩⟩ rfl hn hsize hst (lv_room hW) hdg hcs) hS (fun q _ h => hFc q h) hFc (fun r1 u t H1 locs1 ht hvm hw hB hz1 hk1 hS1 => ?_)
  obtain ⟨hP1, hK1, hD1⟩ := hB
  rw [ht] at hP1
  obtain ⟨g1, g2⟩ := F.join hP hD hk1 hFc hP1 hD1
  subst hw
  exact kk H1 locs1 g1 g2 hS1
end LC
section LM
variable {l : Launch} {y : MethodName} {ws ws' : List Cond} {rm : Room} {as : List Value} {D : va_G} {T : Nat → ClassId} {w w1 : va_W} {cc : ByteArray} {maxL : Nat} {ty : FieldType} {sz mc ms : Nat} {aK aV : Nat → Nat}
theorem Met_ofWH {Pc : Array Value → State → Prop} {Qc : Array Value → State → Outcome → State → Prop} {free : Addr → Prop} {ret : Option FieldType} {hh : List (Nat × Nat × Nat × Nat)}
    (hy : plainName y.cls = true) (hw : ws = Cond.codeWith y cc maxL ret hh :: ws')
    (body : ∀ p e s m args below meth c s₁, BodyLoose p l y (headSpec ws rm) cc maxL ret e s m args below meth c s₁ → c.maxLocals = maxL → Pc args s →
      W p l e (headSpec ws rm).room s m args below meth c s.heap [] 0 0 (MQ below Qc args s mc ms free) (entryFrame m args maxL)) : Met l y ws rm Pc Qc mc ms free := by
  refine MetFree.of_bodyS (code := cc) (maxLocals := maxL) (ret := ret) hy ?_ ?_
  · intro args s m h hn
    obtain ⟨m9, meth, c, hn9, h1, h2, h3, h4, -, h5, h6, -⟩ := Cond.codeWith_spec (atoms_spec (ws := ws) h _ (by rw [hw]; exact List.mem_cons_self))
    cases hn.symm.trans hn9
    exact ⟨meth, c, h1, h2, h3, h4, h5, h6⟩
  · intro p e s m args below meth c s₁ B hml hP _
    have hh0 : s₁.heap = s.heap := by rw [B.state]; rfl
    obtain ⟨t, a1, o, b1, b2, b3, b4⟩ := body p e s m args below meth c s₁ B hml hP s₁ hh0 (Stand.of_body B)
    exact ⟨t, o, a1, b1, b2, b3, b4⟩
/-- the call with its table of handlers -/
theorem metLi {r : Int32} {hh : List (Nat × Nat × Nat × Nat)} (hy : plainName y.cls = true) (hw : ws = Cond.codeWith y cc maxL (some .int) hh :: ws') (hlen : (lg_sl as).length ≤ maxL)
    (body : ∀ (p : Program) (e : Env) (s : State) (m : MethodId) (args : Array Value) (below : List Frame) (meth : Method) (c : Code) (Q : State → Prop) (ls : Array Slot) (A : Nat → Prop), p.tables.exec = Jvm.exec → c.code = cc → c.maxLocals = maxL → s.vm.findClass y.cls = some m.cls → (∀ q ∈ ws, q.before args s = true) → c.exceptionTable.toList = tableOf hh → NCX s → CX aK aV A s s.heap → va_P D vwCl w s.heap → va_K D vwCl (tyL T) s → va_D A w → (∀ q : Nat, s.heap.size ≤ q → A q) → va_S A s.heap s.heap [] → lv_has ls maxL (lv_args 0 as) →
      (∀ (H : Heap) (locs : List Loc) (ls : Array Slot) (pc k n : Nat), decode cc pc = .ok (.ireturn, 1) → va_P D vwCl w1 H → va_D A w1 → va_S A s.heap H locs → k ≤ mc → n ≤ ms → W p l e rm s m args below meth c H locs k n Q (F0 m pc ls [.int r])) →
      W p l e rm s m args below meth c s.heap [] 0 0 Q (F0 m 0 ls [])) : Met l y ws rm (va_Pc as (LWP D T aK aV w sz)) (va_Qi (fun r' (_ : Unit) => r' = r) (fun _ t => QS D T (va_A w sz) w1 t) (va_A w sz)) mc ms (va_A w sz) := by
  refine Met_ofWH (cc := cc) (maxL := maxL) (ret := some .int) hy hw ?_
  intro p e s m args below meth c s₁ B hml hv
  obtain ⟨rfl, ⟨⟨hsz, hP, hK, hD0⟩, hC⟩, hNC⟩ := hv
  subst hsz
  have hts := atoms_spec (ws := ws) B.pre
  have htab := vx_table (x := y) B (hts _ (by rw [hw]; exact List.mem_cons_self))
  have hown : s.vm.findClass y.cls = some m.cls := findClass_of_methodNamed B.named
  have hlocks := B.notSynchronized
  have hl := lv_entry as (n := maxL) hlen
  rw [lg_entry_eq]
  refine body p e s m _ below meth c _ _ (va_A w s.heap.size) B.exec B.bytes hml hown hts htab hNC hC hP hK (hD0.self (sz := s.heap.size)) (fun q h => Or.inr h) va_S.rf hl (fun H locs ls pc k n hd hP1 hD1 hS hk1 hn1 => ?_)
  refine W.widen (k := mc) (n := ms) hk1 hn1 ?_
  exact W.zret B.exec B.bytes B.returns rfl (fun t ht hW => ⟨⟨r, (), rfl, rfl, by rw [ht]; exact hP1, va_K.moved hW.alike hK, hD1⟩, hS.F ht⟩) hS.2.2 hd
/-- a method of the law that answers an int, and leaves some u -/
theorem metUi {S : Type} {px : Int32 → S → Prop} {wu : S → va_W} (hy : plainName y.cls = true) (hw : ws = Cond.code y cc maxL (some ty) :: ws') (hn : ∀ r u, px r u → narrow ty (.int r) = .int r) (hlen : (lg_sl as).length ≤ maxL)
    (body : ∀ (p : Program) (e : Env) (s : State) (m : MethodId) (args : Array Value) (below : List Frame) (meth : Method) (c : Code) (Q : State → Prop) (ls : Array Slot) (A : Nat → Prop), p.tables.exec = Jvm.exec → c.code = cc → c.maxLocals = maxL → s.vm.findClass y.cls = some m.cls → (∀ q ∈ ws, q.before args s = true) → NCX s → CX aK aV A s s.heap → va_P D vwCl w s.heap → va_K D vwCl (tyL T) s → va_D A w → (∀ q : Nat, s.heap.size ≤ q → A q) → va_S A s.heap s.heap [] → lv_has ls maxL (lv_args 0 as) →
      (∀ (H : Heap) (locs : List Loc) (ls : Array Slot) (pc k n : Nat) (r : Int32) (u : S), decode cc pc = .ok (.ireturn, 1) → px r u → va_P D vwCl (wu u) H → va_D A (wu u) → va_S A s.heap H locs → k ≤ mc → n ≤ ms → W p l e rm s m args below meth c H locs k n Q (F0 m pc ls [.int r])) →
      W p l e rm s m args below meth c s.heap [] 0 0 Q (F0 m 0 ls [])) : Met l y ws rm (va_Pc as (LWP D T aK aV w sz)) (va_Qi px (fun u t => QS D T (va_A w sz) (wu u) t) (va_A w sz)) mc ms (va_A w sz) := by
  refine Met.ofW (cc := cc) (maxL := maxL) (ret := some ty) hy hw ?_
  intro p e s m args below meth c s₁ B hml hv
  obtain ⟨rfl, ⟨⟨hsz, hP, hK, hD0⟩, hC⟩, hNC⟩ := hv
  subst hsz
  have hts := atoms_spec (ws := ws) B.pre
  have hown : s.vm.findClass y.cls = some m.cls := findClass_of_methodNamed B.named
  have hlocks := B.notSynchronized
  have hl := lv_entry as (n := maxL) hlen
  rw [lg_entry_eq]
  refine body p e s m _ below meth c _ _ (va_A w s.heap.size) B.exec B.bytes hml hown hts hNC hC hP hK (hD0.self (sz := s.heap.size)) (fun q h => Or.inr h) va_S.rf hl (fun H locs ls pc k n r u hd hpx hP1 hD1 hS hk1 hn1 => ?_)
  refine W.widen (k := mc) (n := ms) hk1 hn1 ?_
  exact W.zret B.exec B.bytes B.returns (hn r u hpx) (fun t ht hW => ⟨⟨r, u, rfl, hpx, by rw [ht]; exact hP1, va_K.moved hW.alike hK, hD1⟩, hS.F ht⟩) hS.2.2 hd
theorem metQi {r : Int32} (hy : plainName y.cls = true) (hw : ws = Cond.code y cc maxL (some ty) :: ws') (hn : narrow ty (.int r) = .int r) (hlen : (lg_sl as).length ≤ maxL)
    (body : ∀ (p : Program) (e : Env) (s : State) (m : MethodId) (args : Array Value) (below : List Frame) (meth : Method) (c : Code) (Q : State → Prop) (ls : Array Slot) (A : Nat → Prop), p.tables.exec = Jvm.exec → c.code = cc → c.maxLocals = maxL → s.vm.findClass y.cls = some m.cls → (∀ q ∈ ws, q.before args s = true) → NCX s → CX aK aV A s s.heap → va_P D vwCl w s.heap → va_K D vwCl (tyL T) s → va_D A w → (∀ q : Nat, s.heap.size ≤ q → A q) → va_S A s.heap s.heap [] → lv_has ls maxL (lv_args 0 as) →
      (∀ (H : Heap) (locs : List Loc) (ls : Array Slot) (pc k n : Nat), decode cc pc = .ok (.ireturn, 1) → va_P D vwCl w1 H → va_D A w1 → va_S A s.heap H locs → k ≤ mc → n ≤ ms → W p l e rm s m args below meth c H locs k n Q (F0 m pc ls [.int r])) →
      W p l e rm s m args below meth c s.heap [] 0 0 Q (F0 m 0 ls [])) : Met l y ws rm (va_Pc as (LWP D T aK aV w sz)) (va_Qi (fun r' (_ : Unit) => r' = r) (fun _ t => QS D T (va_A w sz) w1 t) (va_A w sz)) mc ms (va_A w sz) :=
  metUi (wu := fun _ => w1) hy hw (fun _ _ h => by rw [h]; exact hn) hlen (fun p e s m args below meth c Q ls A h1 h2 h3 h4 h5 h6 h7 h8 h9 h10 h11 h12 h13 hret => body p e s m args below meth c Q ls A h1 h2 h3 h4 h5 h6 h7 h8 h9 h10 h11 h12 h13 (fun H locs ls pc k n hd g1 g2 g3 g4 g5 => hret H locs ls pc k n r () hd rfl g1 g2 g3 g4 g5))
theorem metQl {r : Int64} (hy : plainName y.cls = true) (hw : ws = Cond.code y cc maxL (some .long) :: ws') (hlen : (lg_sl as).length ≤ maxL)
    (body : ∀ (p : Program) (e : Env) (s : State) (m : MethodId) (args : Array Value) (below : List Frame) (meth : Method) (c : Code) (Q : State → Prop) (ls : Array Slot) (A : Nat → Prop), p.tables.exec = Jvm.exec → c.code = cc → c.maxLocals = maxL → s.vm.findClass y.cls = some m.cls → (∀ q ∈ ws, q.before args s = true) → NCX s → CX aK aV A s s.heap → va_P D vwCl w s.heap → va_K D vwCl (tyL T) s → va_D A w → (∀ q : Nat, s.heap.size ≤ q → A q) → va_S A s.heap s.heap [] → lv_has ls maxL (lv_args 0 as) →
      (∀ (H : Heap) (locs : List Loc) (ls : Array Slot) (pc k n : Nat), decode cc pc = .ok (.lreturn, 1) → va_P D vwCl w1 H → va_D A w1 → va_S A s.heap H locs → k ≤ mc → n ≤ ms → W p l e rm s m args below meth c H locs k n Q (F0 m pc ls [.long r])) →
      W p l e rm s m args below meth c s.heap [] 0 0 Q (F0 m 0 ls [])) : Met l y ws rm (va_Pc as (LWP D T aK aV w sz)) (va_Ql (fun r' (_ : Unit) => r' = r) (fun _ t => QS D T (va_A w sz) w1 t) (va_A w sz)) mc ms (va_A w sz) := by
  refine Met.ofW (cc := cc) (maxL := maxL) (ret := some .long) hy hw ?_
  intro p e s m args below meth c s₁ B hml hv
  obtain ⟨rfl, ⟨⟨hsz, hP, hK, hD0⟩, hC⟩, hNC⟩ := hv
  subst hsz
  have hts := atoms_spec (ws := ws) B.pre
  have hown : s.vm.findClass y.cls = some m.cls := findClass_of_methodNamed B.named
  have hlocks := B.notSynchronized
  have hl := lv_entry as (n := maxL) hlen
  rw [lg_entry_eq]
  refine body p e s m _ below meth c _ _ (va_A w s.heap.size) B.exec B.bytes hml hown hts hNC hC hP hK (hD0.self (sz := s.heap.size)) (fun q h => Or.inr h) va_S.rf hl (fun H locs ls pc k n hd hP1 hD1 hS hk1 hn1 => ?_)
  refine W.widen (k := mc) (n := ms) hk1 hn1 ?_
  exact W.lret B.exec B.bytes B.returns (fun t ht hW => ⟨⟨r, (), rfl, rfl, by rw [ht]; exact hP1, va_K.moved hW.alike hK, hD1⟩, hS.F ht⟩) hS.2.2 hd
end LM
/-! a throw caught in the law's call -/
def typN (t : Nat) : String := if t = 151 then "java/util/NoSuchElementException" else if t = 155 then "java/lang/IllegalStateException" else if t = 157 then "java/lang/IllegalArgumentException" else "java/lang/IndexOutOfBoundsException"
theorem typN_ex (t : Nat) : typN t ∈ exL := by
  unfold typN
  split
  · decide
  · split
    · decide
    · split <;> decide
section CT
variable {p : Program} {l : Launch} {e : Env} {R : Room} {s : State} {m : MethodId} {args : Array Value} {below : List Frame} {meth : Method} {c : Code} {H : Heap} {locs : List Loc} {cells slots : Nat} {Q : State → Prop} {pc : Nat} {ls : Array Slot} {rest : List Value}
theorem catL {hh : List (Nat × Nat × Nat × Nat)} {E : String} {ce : Cell} {q : Addr} (hown : s.vm.findClass RL = some m.cls) (htab : c.exceptionTable.toList = tableOf hh) (hNC : NCX s) (hCX : CXT s)
    (hl151 : (Cond.classLink RL 151 "java/util/NoSuchElementException").before args s = true) (hl155 : (Cond.classLink RL 155 "java/lang/IllegalStateException").before args s = true) (hl157 : (Cond.classLink RL 157 "java/lang/IllegalArgumentException").before args s = true) (hl159 : (Cond.classLink RL 159 "java/lang/IndexOutOfBoundsException").before args s = true)
    (i : Nat) (x : Nat × Nat × Nat × Nat) (hx : hh[i]? = some x) (hE : E = typN x.2.2.2) (hxc : (x.1 ≤ pc ∧ pc < x.2.1) ∧ (x.2.2.2 = 151 ∨ x.2.2.2 = 155 ∨ x.2.2.2 = 157 ∨ x.2.2.2 = 159))
    (hpass : ∀ z ∈ hh.take i, (pc < z.1 ∨ z.2.1 ≤ pc) ∨ ((z.2.2.2 = 151 ∨ z.2.2.2 = 155 ∨ z.2.2.2 = 157 ∨ z.2.2.2 = 159) ∧ z.2.2.2 ≠ x.2.2.2)) (hcell : H[q]? = some ce) (hv : ce.vm = .none) (hcl : s.vm.findClass E = some ce.cls)
    (kk : W p l e R s m args below meth c H locs cells slots Q (F0 m x.2.2.1 ls [.ref q])) : vx_W p l e R s m args below meth c H locs cells slots Q (F0 m pc ls rest) q := by
  have hln : ∀ t, t = 151 ∨ t = 155 ∨ t = 157 ∨ t = 159 → (Cond.classLink RL t (typN t)).before args s = true := by
    rintro t (rfl | rfl | rfl | rfl)
    · exact hl151
    · exact hl155
    · exact hl157
    · exact hl159
  have hinj : ∀ t t' : Nat, (t = 151 ∨ t = 155 ∨ t = 157 ∨ t = 159) → (t' = 151 ∨ t' = 155 ∨ t' = 157 ∨ t' = 159) → t ≠ t' → typN t ≠ typN t' := by
    rintro t t' (rfl | rfl | rfl | rfl) (rfl | rfl | rfl | rfl) h <;> first | exact absurd rfl h | decide
  have hsp : hh = hh.take i ++ x :: hh.drop (i + 1) := by
    obtain ⟨hi, hxe⟩ := List.getElem?_eq_some_iff.mp hx
    rw [← hxe, ← List.drop_eq_getElem_cons hi, List.take_append_drop]
  subst hE
  refine vx_catch (E := typN x.2.2.2) (name := typN x.2.2.2) hown (tableOf (hh.take i)) ⟨x.1, x.2.1, x.2.2.1, x.2.2.2⟩ (tableOf (hh.drop (i + 1))) ?_ ?_ ?_ ?_ (hln _ hxc.2) (cast_self hCX _ (typN_ex _)) hcell hv hcl kk
  · rw [htab]
    conv => lhs; rw [hsp]
    simp only [tableOf, List.map_append, List.map_cons]
  · intro z hz
    obtain ⟨z0, hz0, rfl⟩ := List.mem_map.mp hz
    rcases hpass z0 hz0 with h | ⟨h1, h2⟩
    · left
      simp only [covers, Bool.and_eq_false_iff, decide_eq_false_iff_not]
      omega
    · right
      refine ⟨?_, typN z0.2.2.2, hln _ h1, hNC _ (typN_ex _) _ (typN_ex _) (hinj _ _ hxc.2 h1 (fun e => h2 e.symm))⟩
      show z0.2.2.2 ≠ 0
      omega
  · simp only [covers, Bool.and_eq_true, decide_eq_true_eq]
    exact hxc.1
  · show x.2.2.2 ≠ 0
    omega
end CT
