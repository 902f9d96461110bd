/-! what never changes while the class works: its texts, the two fields that a throw reads; contracts and calls over them -/
def lits : List (List Int32) := [[109, 111, 111, 110, 32, 56, 32, 50, 32, 54, 59, 99, 108, 111, 117, 100, 115, 32, 48, 32, 51, 32, 57, 59, 99, 108, 101, 114, 107, 32, 51, 32, 50, 48, 59, 99, 108, 101, 114, 107, 32, 55, 32, 53, 59, 99, 111, 109, 112, 108, 97, 105, 110, 116, 32, 52, 32, 103, 108, 97, 114, 101, 32, 53, 59, 99, 111, 109, 112, 108, 97, 105, 110, 116, 32, 52, 32, 103, 108, 111, 111, 109, 32, 50, 59, 99, 111, 109, 112, 108, 97, 105, 110, 116, 32, 57, 32, 116, 105, 100, 101, 32, 54, 59, 99, 111, 109, 112, 108, 97, 105, 110, 116, 32, 51, 48, 32, 102, 97, 99, 101, 32, 57, 59], [109, 111, 111, 110], [99, 108, 111, 117, 100, 115], [99, 108, 101, 114, 107], [99, 111, 109, 112, 108, 97, 105, 110, 116], [103, 108, 97, 114, 101], [103, 108, 111, 111, 109], [116, 105, 100, 101], [102, 97, 99, 101]]
def litN (i : Nat) : Nat := (lits.getD i []).length
def litF (i j : Nat) : Int32 := (lits.getD i []).getD j 0
def strT : List (String × Nat × String) := [("MoonComplaintWindow", 47, "moon 8 2 6;clouds 0 3 9;clerk 3 20;clerk 7 5;complaint 4 glare 5;complaint 4 gloom 2;complaint 9 tide 6;complaint 30 face 9;"), ("MoonComplaintWindow$Loader", 75, "moon"), ("MoonComplaintWindow$Loader", 99, "clouds"), ("MoonComplaintWindow$Loader", 105, "clerk"), ("MoonComplaintWindow$Loader", 117, "complaint"), ("MoonComplaintWindow$Loader", 141, "glare"), ("MoonComplaintWindow$Loader", 143, "gloom"), ("MoonComplaintWindow$Loader", 145, "tide"), ("MoonComplaintWindow$Loader", 147, "face"), ("MoonComplaintWindow", 84, "the input buffer is full"), ("MoonComplaintWindow", 94, "not a length of a beginning of the buffer"), ("MoonComplaintWindow", 101, "the text has an error"), ("MoonComplaintWindow", 118, "no error"), ("MoonComplaintWindow", 166, "justified in no night to come"), ("MoonComplaintWindow", 191, "the complaint is waiting"), ("MoonComplaintWindow", 199, "no clerk closed the complaint"), ("MoonComplaintWindow", 208, "no such complaint is waiting"), ("MoonComplaintWindow", 216, "no complaint is waiting"), ("MoonComplaintWindow", 234, "there are no clerks"), ("MoonComplaintWindow", 269, "there are as many complaints as there may be"), ("MoonComplaintWindow", 271, "the person has a waiting complaint of this sort"), ("MoonComplaintWindow", 283, "there are as many clerks as there may be"), ("MoonComplaintWindow", 299, "no such cloud"), ("MoonComplaintWindow", 305, "the night would exceed the last one"), ("MoonComplaintWindow", 310, "nothing to undo"), ("MoonComplaintWindow", 325, "the slot is empty"), ("MoonComplaintWindow", 335, "no such byte"), ("MoonComplaintWindow", 340, "out of range"), ("MoonComplaintWindow", 342, "no such slot"), ("MoonComplaintWindow", 347, "no such complaint"), ("MoonComplaintWindow", 350, "no such clerk"), ("MoonComplaintWindow", 352, "the complaint is not waiting")]
def strO (i : Nat) : String × Nat × String := strT.getD i ("", 0, "")
theorem lit_ok : ∀ i, i < 9 → litN i < 128 ∧ ∀ j, j < litN i → ∃ z, z < 128 ∧ litF i j = nI z := by
  have h : ∀ i, i < 9 → litN i < 128 ∧ ∀ j, j < litN i → (litF i j).toNatClampNeg < 128 ∧ litF i j = nI (litF i j).toNatClampNeg := by decide +kernel
  exact fun i hi => ⟨(h i hi).1, fun j hj => ⟨_, (h i hi).2 j hj⟩⟩
/-- what a throw needs besides: words on the four classes that are thrown -/
def exL : List String := ["java/lang/IllegalArgumentException", "java/lang/IllegalStateException", "java/lang/IndexOutOfBoundsException", "java/util/NoSuchElementException"]
def supL : List String := ["java/lang/RuntimeException", "java/lang/Exception"]
def badW (X : String) : List Cond := (vx_atS RX9 0 X supL).filter (fun w => !goodWord w)
def isDC (w : Cond) : Bool := match w with
  | .declares _ => true
  | .castable _ _ => true
  | _ => false
theorem bad_dc : ∀ X ∈ exL, ∀ w ∈ badW X, isDC w = true := by decide +kernel
def CXT (U : State) : Prop := ∀ X ∈ exL, ∀ w ∈ badW X, va_Nw w U
theorem CXT.warm {s U : State} (hW : s.WarmedH U.vm) (h : CXT s) : CXT U := by
  intro X hX w hw
  have h1 := h X hX w hw
  have h2 := bad_dc X hX w hw
  cases w <;> first | (cases h2; done) | exact va_Nw.warmD hW h1 | exact va_Nw.warmC hW h1
theorem CXT.use {s : State} {args : Array Value} (h : CXT s) {X : String} (hX : X ∈ exL) : ∀ w ∈ badW X, w.before args s = true := by
  intro w hw
  have h1 := h X hX w hw
  have h2 := bad_dc X hX w hw
  cases w <;> first | (cases h2; done) | exact va_Nw.use rfl h1
def CX (aK aV : Nat → Nat) (A : Nat → Prop) (U : State) (H : Heap) : Prop :=
  (∀ i, i < 9 → STF (aK i) (aV i) (litN i) (litF i) A U H) ∧ (∀ i, i < 32 → vk_R (strO i).1 (strO i).2.1 (strO i).2.2 (aK i) U) ∧
  vx_Zq Bundle.tN "UNASSIGNED_STACK" Bundle.steD A U H ∧ vx_Zq Bundle.tN "SUPPRESSED_SENTINEL" Bundle.listD A U H ∧ CXT U
theorem CX.kept {aK aV : Nat → Nat} {A : Nat → Prop} {U : State} {H H1 : Heap} (h : CX aK aV A U H) (hq : ∀ a : Nat, a < H.size → ¬ A a → H1[a]? = H[a]?) : CX aK aV A U H1 :=
  ⟨fun i hi => (h.1 i hi).kept hq, h.2.1, h.2.2.1.kept hq, h.2.2.2.1.kept hq, h.2.2.2.2⟩
theorem CX.narrow {aK aV : Nat → Nat} {A B : Nat → Prop} {U : State} {H : Heap} (h : CX aK aV A U H) (hAB : ∀ q, B q → A q) : CX aK aV B U H :=
  ⟨fun i hi => (h.1 i hi).narrow hAB, h.2.1, h.2.2.1.narrow hAB, h.2.2.2.1.narrow hAB, h.2.2.2.2⟩
theorem CX.warm {aK aV : Nat → Nat} {A : Nat → Prop} {s U : State} {H : Heap} (hW : s.WarmedH U.vm) (h : CX aK aV A s H) : CX aK aV A U H :=
  ⟨fun i hi => (h.1 i hi).moved hW.alike, fun i hi => (h.2.1 i hi).warm hW, h.2.2.1.moved hW.alike, h.2.2.2.1.moved hW.alike, h.2.2.2.2.warm hW⟩
def PSc (D : va_G) (T : Nat → ClassId) (aK aV : Nat → Nat) (ws : va_W) (sz : Nat) (U : State) : Prop := PS D T ws sz U ∧ CX aK aV (va_A ws sz) U U.heap
theorem PSc.blind (as : List Value) (D : va_G) (T : Nat → ClassId) (aK aV : Nat → Nat) (ws : va_W) (sz : Nat) : FrameBlind (va_Pc as (PSc D T aK aV ws sz)) := fun a U g mk q =>
  ⟨q.1, (PS.blind as D T ws sz a U g mk ⟨q.1, q.2.1⟩).2, CX.warm (U := U.calling g mk a) (State.WarmedH.refl U) q.2.2⟩
theorem STF.str {aK aV : Nat → Nat} {A : Nat → Prop} {s U : State} {H0 H : Heap} {locs : List Loc} (h : CX aK aV A s H0) (hS : va_S A H0 H locs) {i : Nat} (hi : i < 9) (hU : U.heap = H) (hv : s.vm.Alike U.vm) : STF (aK i) (aV i) (litN i) (litF i) nA U U.heap := by
  rw [hU]
  exact (((h.1 i hi).kept hS.2.1).moved hv).narrow (fun q z => z.elim)
theorem STF.recv {aK aV : Nat → Nat} {A : Nat → Prop} {s : State} {H0 H : Heap} {locs : List Loc} (h : CX aK aV A s H0) (hS : va_S A H0 H locs) {i : Nat} (hi : i < 9) : ∃ cell : Cell, H[aK i]? = some cell ∧ cell.vm.isStatics = false ∧ s.vm.findClass "java/lang/String" = some cell.cls := by
  obtain ⟨cell, g1, g2, g3, -⟩ := ((h.1 i hi).kept hS.2.1).1
  exact ⟨cell, g1, g2, g3⟩
section CC
variable {p : Program} {l : Launch} {e : Env} {R : Room} {s : State} {m : MethodId} {args : Array Value} {below : List Frame} {meth : Method} {c : Code} {H H0 : Heap} {locs : List Loc} {cells slots : Nat} {Q : State → Prop}
  {Ts wsy : List Cond} {cc bytes : ByteArray} {nL maxL index n mc ms pc : Nat} {own C : String} {y : MethodName} {ret : Option FieldType} {rm : Room} {b : Addr} {As rest st : List Value} {ls : Array Slot}
  {D : va_G} {T : Nat → ClassId} {ws wc ws1 wc1 : va_W} {A0 : Nat → Prop} {aK aV : Nat → Nat}
theorem CX.call {wc : va_W} (hC : CX aK aV A0 s H0) (hS : va_S A0 H0 H locs) (hF : ∀ q, va_A wc H.size q → A0 q) {U : State} (hU : U.heap = H) (hW : s.WarmedH U.vm) : CX aK aV (va_A wc H.size) U U.heap := by
  rw [hU]
  exact ((hC.kept hS.2.1).warm hW).narrow hF
theorem wcVi {r : Int32} {T' : u_T} {N' ci : Nat} {fs : List Value} (S : CallFix p m c cc nL s args Ts own) (hM : Met l y wsy rm (va_Pc (.ref b :: As) (PSc D T aK aV wc H.size)) (va_Qi (fun r' (_ : Unit) => r' = r) (fun _ t => QS D T (va_A wc H.size) wc1 t) (va_A wc H.size)) mc ms (va_A wc H.size)) (cw : CallW R s args own C index y bytes maxL ret wsy rm mc ms n)
    (F : Foc ws wc ws1 wc1) (hC : CX aK aV A0 s H0) (hK : va_K D vwCl (tyL T) s) (hP : va_P D vwCl ws H) (hD : va_D A0 ws) (hS : va_S A0 H0 H locs) (hA : ∀ q, H0.size ≤ q → A0 q)
    (q0 : Nat) (he : wc[q0]? = some (b, .inr (ci, fs))) (hc : vwCl[ci]? = some (C, T', N')) (hn : As.length = n) (hsize : ls.size = nL) (hst : st = As.reverse ++ .ref b :: rest) (hW : (rest.map fun v => v.category).sum ≤ 8) (hcs : cells + mc ≤ R.cells ∧ slots + ms ≤ R.slots) (hdg : decode cc pc = .ok (.invokevirtual index, 3))
    (kk : ∀ (H1 : Heap) (locs1 : List Loc), va_P D vwCl ws1 H1 → va_D A0 ws1 → va_S A0 H0 H1 locs1 → W p l e R s m args below meth c H1 locs1 (cells + mc) (slots + ms) Q (F0 m (pc + 3) ls (.int r :: rest))) : W p l e R s m args below meth c H locs cells slots Q (F0 m pc ls st) := by
  have hPc := F.subP hP
  have hDc := F.subD hD
  have hFc := F.free hD hS hA
  refine va_calli (va_runV S hM cw ⟨PSc.blind _ _ _ _ _ _ _, va_recv hK hPc hc he, fun U hU hW => ⟨rfl, ⟨by rw [hU], by rw [hU]; exact hPc, va_K.moved hW.alike hK, hDc.weaken (fun _ _ _ _ => trivial)⟩, hC.call hS hFc hU hW⟩⟩ rfl hn hsize hst (lv_room hW) hdg hcs) hS (fun q _ h => hFc q h) hFc (fun r1 u t H1 locs1 ht hvm hw hB hz1 hk1 hS1 => ?_)
  obtain ⟨hP1, hK1, hD1⟩ := hB
  rw [ht] at hP1
  obtain ⟨g1, g2⟩ := F.join hP hD hk1 hFc hP1 hD1
  subst hw
  exact kk H1 locs1 g1 g2 hS1
theorem wcVv {T' : u_T} {N' ci : Nat} {fs : List Value} (S : CallFix p m c cc nL s args Ts own) (hM : Met l y wsy rm (va_Pc (.ref b :: As) (PSc D T aK aV wc H.size)) (va_Qv (fun (_ : Unit) => True) (fun _ t => QS D T (va_A wc H.size) wc1 t) (va_A wc H.size)) mc ms (va_A wc H.size)) (cw : CallW R s args own C index y bytes maxL ret wsy rm mc ms n)
    (F : Foc ws wc ws1 wc1) (hC : CX aK aV A0 s H0) (hK : va_K D vwCl (tyL T) s) (hP : va_P D vwCl ws H) (hD : va_D A0 ws) (hS : va_S A0 H0 H locs) (hA : ∀ q, H0.size ≤ q → A0 q)
    (q0 : Nat) (he : wc[q0]? = some (b, .inr (ci, fs))) (hc : vwCl[ci]? = some (C, T', N')) (hn : As.length = n) (hsize : ls.size = nL) (hst : st = As.reverse ++ .ref b :: rest) (hW : (rest.map fun v => v.category).sum ≤ 8) (hcs : cells + mc ≤ R.cells ∧ slots + ms ≤ R.slots) (hdg : decode cc pc = .ok (.invokevirtual index, 3))
    (kk : ∀ (H1 : Heap) (locs1 : List Loc), va_P D vwCl ws1 H1 → va_D A0 ws1 → va_S A0 H0 H1 locs1 → W p l e R s m args below meth c H1 locs1 (cells + mc) (slots + ms) Q (F0 m (pc + 3) ls rest)) : W p l e R s m args below meth c H locs cells slots Q (F0 m pc ls st) := by
  have hPc := F.subP hP
  have hDc := F.subD hD
  have hFc := F.free hD hS hA
  refine va_callv (va_runV S hM cw ⟨PSc.blind _ _ _ _ _ _ _, va_recv hK hPc hc he, fun U hU hW => ⟨rfl, ⟨by rw [hU], by rw [hU]; exact hPc, va_K.moved hW.alike hK, hDc.weaken (fun _ _ _ _ => trivial)⟩, hC.call hS hFc hU hW⟩⟩ rfl hn hsize hst (lv_room hW) hdg hcs) hS (fun q _ h => hFc q h) hFc (fun u t H1 locs1 ht hvm hw hB hz1 hk1 hS1 => ?_)
  obtain ⟨hP1, hK1, hD1⟩ := hB
  rw [ht] at hP1
  obtain ⟨g1, g2⟩ := F.join hP hD hk1 hFc hP1 hD1
  exact kk H1 locs1 g1 g2 hS1
end CC
section MC
variable {l : Launch} {y : MethodName} {ws ws' : List Cond} {rm : Room} {as : List Value} {D : va_G} {T : Nat → ClassId} {w w1 : va_W} {cc : ByteArray} {maxL : Nat} {ty : FieldType} {sz : Nat} {aK aV : Nat → Nat}
theorem metCi {r : Int32} {mc ms : Nat} (hy : plainName y.cls = true) (hw : ws = Cond.code y cc maxL (some ty) :: ws') (hn : narrow ty (.int r) = .int r) (hlen : (lg_sl as).length ≤ maxL)
    (body : ∀ (p : Program) (e : Env) (s : State) (m : MethodId) (args : Array Value) (below : List Frame) (meth : Method) (c : Code) (Q : State → Prop) (ls : Array Slot) (A : Nat → Prop), p.tables.exec = Jvm.exec → c.code = cc → c.maxLocals = maxL → s.vm.findClass y.cls = some m.cls → (∀ q ∈ ws, q.before args s = true) → CX aK aV A s s.heap → va_P D vwCl w s.heap → va_K D vwCl (tyL T) s → va_D A w → (∀ q : Nat, s.heap.size ≤ q → A q) → va_S A s.heap s.heap [] → lv_has ls maxL (lv_args 0 as) →
      (∀ (H : Heap) (locs : List Loc) (ls : Array Slot) (pc : Nat), decode cc pc = .ok (.ireturn, 1) → va_P D vwCl w1 H → va_D A w1 → va_S A s.heap H locs → W p l e rm s m args below meth c H locs mc ms Q (F0 m pc ls [.int r])) →
      W p l e rm s m args below meth c s.heap [] 0 0 Q (F0 m 0 ls [])) : Met l y ws rm (va_Pc as (PSc D T aK aV w sz)) (va_Qi (fun r' (_ : Unit) => r' = r) (fun _ t => QS D T (va_A w sz) w1 t) (va_A w sz)) mc ms (va_A w sz) := by
  refine Met.ofW (cc := cc) (maxL := maxL) (ret := some ty) hy hw ?_
  intro p e s m args below meth c s₁ B hml hv
  obtain ⟨rfl, ⟨hsz, hP, hK, hD0⟩, hC⟩ := hv
  subst hsz
  have hts := atoms_spec (ws := ws) B.pre
  have hown : s.vm.findClass y.cls = some m.cls := findClass_of_methodNamed B.named
  have hlocks := B.notSynchronized
  have hl := lv_entry as (n := maxL) hlen
  rw [lg_entry_eq]
  refine body p e s m _ below meth c _ _ (va_A w s.heap.size) B.exec B.bytes hml hown hts hC hP hK (hD0.self (sz := s.heap.size)) (fun q h => Or.inr h) va_S.rf hl (fun H locs ls pc hd hP1 hD1 hS => ?_)
  exact W.zret B.exec B.bytes B.returns hn (fun t ht hW => ⟨⟨r, (), rfl, rfl, by rw [ht]; exact hP1, va_K.moved hW.alike hK, hD1⟩, hS.F ht⟩) hS.2.2 hd
theorem metCv {mc ms : Nat} (hy : plainName y.cls = true) (hw : ws = Cond.code y cc maxL none :: ws') (hlen : (lg_sl as).length ≤ maxL)
    (body : ∀ (p : Program) (e : Env) (s : State) (m : MethodId) (args : Array Value) (below : List Frame) (meth : Method) (c : Code) (Q : State → Prop) (ls : Array Slot) (A : Nat → Prop), p.tables.exec = Jvm.exec → c.code = cc → c.maxLocals = maxL → s.vm.findClass y.cls = some m.cls → (∀ q ∈ ws, q.before args s = true) → CX aK aV A s s.heap → va_P D vwCl w s.heap → va_K D vwCl (tyL T) s → va_D A w → (∀ q : Nat, s.heap.size ≤ q → A q) → va_S A s.heap s.heap [] → lv_has ls maxL (lv_args 0 as) →
      (∀ (H : Heap) (locs : List Loc) (ls : Array Slot) (pc : Nat), decode cc pc = .ok (.return_, 1) → va_P D vwCl w1 H → va_D A w1 → va_S A s.heap H locs → W p l e rm s m args below meth c H locs mc ms Q (F0 m pc ls [])) →
      W p l e rm s m args below meth c s.heap [] 0 0 Q (F0 m 0 ls [])) : Met l y ws rm (va_Pc as (PSc D T aK aV w sz)) (va_Qv (fun (_ : Unit) => True) (fun _ t => QS D T (va_A w sz) w1 t) (va_A w sz)) mc ms (va_A w sz) := by
  refine Met.ofW (cc := cc) (maxL := maxL) (ret := none) hy hw ?_
  intro p e s m args below meth c s₁ B hml hv
  obtain ⟨rfl, ⟨hsz, hP, hK, hD0⟩, hC⟩ := hv
  subst hsz
  have hts := atoms_spec (ws := ws) B.pre
  have hown : s.vm.findClass y.cls = some m.cls := findClass_of_methodNamed B.named
  have hlocks := B.notSynchronized
  have hl := lv_entry as (n := maxL) hlen
  rw [lg_entry_eq]
  refine body p e s m _ below meth c _ _ (va_A w s.heap.size) B.exec B.bytes hml hown hts hC hP hK (hD0.self (sz := s.heap.size)) (fun q h => Or.inr h) va_S.rf hl (fun H locs ls pc hd hP1 hD1 hS => ?_)
  exact W.vret B.exec B.bytes B.returns (fun t ht hW => ⟨⟨(), rfl, trivial, by rw [ht]; exact hP1, va_K.moved hW.alike hK, hD1⟩, hS.F ht⟩) hS.2.2 hd
end MC
