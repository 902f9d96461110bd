/-! constructors: rows made, objects made, what a constructor owes -/
def nestL : List (String × Nat × MethodName) := [(RX9, 11, yX2_init), (RX9, 18, yX3_init), (RX9, 42, yX4_init), (RX0, 17, yX3_init), (RX2, 11, yX1_init), (RX2, 20, yX3_init), (RX3, 11, yX6_init), (RX3, 20, yX8_init), (RX3, 27, yX5_init), (RX7, 21, yX3_init)]
def NX (U : State) : Prop := (∀ q ∈ nestL, va_Nw (.methodLinkNest q.1 q.2.1 q.2.2 "MoonComplaintWindow") U) ∧ va_AO RX3 U
theorem NX.warm {s U : State} (hW : s.WarmedH U.vm) (h : NX s) : NX U := ⟨fun q hq => va_Nw.warmM hW (h.1 q hq), h.2.moved hW.alike⟩
/-- .. and what a constructor that reads wants besides -/
def NXC (aK aV : Nat → Nat) (ws : va_W) (sz : Nat) (U : State) : Prop := NX U ∧ CX aK aV (va_A ws sz) U U.heap
section NR
variable {p : Program} {l : Launch} {e : Env} {R : Room} {s : State} {m : MethodId} {args : Array Value} {below : List Frame} {meth : Method} {c : Code} {H H0 : Heap} {locs : List Loc} {cells slots : Nat} {Q : State → Prop}
  {Ts wsy : List Cond} {cc bytes : ByteArray} {nL maxL index mc ms pc : Nat} {own host : String} {y : MethodName} {rm : Room} {rest st : List Value} {ls : Array Slot} {D : va_G} {T : Nat → ClassId} {ws : va_W} {A0 A : Nat → Prop}
theorem newI (hexec : p.tables.exec = Jvm.exec) (hb : c.code = cc) (harr : (Cond.arrayClass .int).before args s = true) (hK : va_K D vwCl (tyL T) s) (hP : va_P D vwCl ws H) (hD : va_D A ws) (hS : va_S A H0 H locs) (hA : ∀ q, H0.size ≤ q → A q)
    {n : Int32} {N' : Nat} (hn : ¬ n < 0) (hN : n.toNatClampNeg = N') (hbytes : N' * 4 ≤ 536870912) (hcells : cells + 1 ≤ R.cells) (hslots : slots + N' ≤ R.slots) (hdg : decode cc pc = .ok (.newarray .int, 2))
    (kk : ∀ (q : Nat) (H1 : Heap), va_P D vwCl (ws ++ [(q, .inl (T 0, N', .inl fun _ => 0))]) H1 → va_D A (ws ++ [(q, .inl (T 0, N', .inl fun _ => 0))]) → va_S A H0 H1 locs → W p l e R s m args below meth c H1 locs (cells + 1) (slots + N') Q (F0 m (pc + 2) ls (.ref q :: rest))) : W p l e R s m args below meth c H locs cells slots Q (F0 m pc ls (.int n :: rest)) := by
  refine va_newa (atype := .int) (ty := .int) (a0 := (N', .inl fun _ => 0)) hexec hb harr rfl hK hP hD hS hA (fun cA => rfl) hn hN hbytes hcells hslots hdg (fun q cA H1 hK1 hP1 hD1 hS1 => ?_)
  have h1 : s.vm.findClass ("[" ++ (FieldType.int).toString) = some cA := (hK1.2 5 _ rfl).2
  have h2 : s.vm.findClass ("[" ++ (FieldType.int).toString) = some (T 0) := (hK.2 0 _ rfl).2
  obtain rfl : cA = T 0 := Option.some.inj (h1.symm.trans h2)
  exact kk q H1 hP1 hD1 hS1
theorem newZ (hexec : p.tables.exec = Jvm.exec) (hb : c.code = cc) (harr : (Cond.arrayClass .boolean).before args s = true) (hK : va_K D vwCl (tyL T) s) (hP : va_P D vwCl ws H) (hD : va_D A ws) (hS : va_S A H0 H locs) (hA : ∀ q, H0.size ≤ q → A q)
    {n : Int32} {N' : Nat} (hn : ¬ n < 0) (hN : n.toNatClampNeg = N') (hbytes : N' * 1 ≤ 536870912) (hcells : cells + 1 ≤ R.cells) (hslots : slots + N' ≤ R.slots) (hdg : decode cc pc = .ok (.newarray .boolean, 2))
    (kk : ∀ (q : Nat) (H1 : Heap), va_P D vwCl (ws ++ [(q, .inl (T 1, N', .inl fun _ => 0))]) H1 → va_D A (ws ++ [(q, .inl (T 1, N', .inl fun _ => 0))]) → va_S A H0 H1 locs → W p l e R s m args below meth c H1 locs (cells + 1) (slots + N') Q (F0 m (pc + 2) ls (.ref q :: rest))) : W p l e R s m args below meth c H locs cells slots Q (F0 m pc ls (.int n :: rest)) := by
  refine va_newa (atype := .boolean) (ty := .boolean) (a0 := (N', .inl fun _ => 0)) hexec hb harr rfl hK hP hD hS hA (fun cA => rfl) hn hN hbytes hcells hslots hdg (fun q cA H1 hK1 hP1 hD1 hS1 => ?_)
  have h1 : s.vm.findClass ("[" ++ (FieldType.boolean).toString) = some cA := (hK1.2 5 _ rfl).2
  have h2 : s.vm.findClass ("[" ++ (FieldType.boolean).toString) = some (T 1) := (hK.2 1 _ rfl).2
  obtain rfl : cA = T 1 := Option.some.inj (h1.symm.trans h2)
  exact kk q H1 hP1 hD1 hS1
theorem newB (hexec : p.tables.exec = Jvm.exec) (hb : c.code = cc) (harr : (Cond.arrayClass .byte).before args s = true) (hK : va_K D vwCl (tyL T) s) (hP : va_P D vwCl ws H) (hD : va_D A ws) (hS : va_S A H0 H locs) (hA : ∀ q, H0.size ≤ q → A q)
    {n : Int32} {N' : Nat} (hn : ¬ n < 0) (hN : n.toNatClampNeg = N') (hbytes : N' * 1 ≤ 536870912) (hcells : cells + 1 ≤ R.cells) (hslots : slots + N' ≤ R.slots) (hdg : decode cc pc = .ok (.newarray .byte, 2))
    (kk : ∀ (q : Nat) (H1 : Heap), va_P D vwCl (ws ++ [(q, .inl (T 3, N', .inl fun _ => 0))]) H1 → va_D A (ws ++ [(q, .inl (T 3, N', .inl fun _ => 0))]) → va_S A H0 H1 locs → W p l e R s m args below meth c H1 locs (cells + 1) (slots + N') Q (F0 m (pc + 2) ls (.ref q :: rest))) : W p l e R s m args below meth c H locs cells slots Q (F0 m pc ls (.int n :: rest)) := by
  refine va_newa (atype := .byte) (ty := .byte) (a0 := (N', .inl fun _ => 0)) hexec hb harr rfl hK hP hD hS hA (fun cA => rfl) hn hN hbytes hcells hslots hdg (fun q cA H1 hK1 hP1 hD1 hS1 => ?_)
  have h1 : s.vm.findClass ("[" ++ (FieldType.byte).toString) = some cA := (hK1.2 5 _ rfl).2
  have h2 : s.vm.findClass ("[" ++ (FieldType.byte).toString) = some (T 3) := (hK.2 3 _ rfl).2
  obtain rfl : cA = T 3 := Option.some.inj (h1.symm.trans h2)
  exact kk q H1 hP1 hD1 hS1
theorem newQ (hexec : p.tables.exec = Jvm.exec) (hb : c.code = cc) (hown : s.vm.findClass own = some m.cls) (hcl : (Cond.classLink own index RX3).before args s = true) (hover : va_AO RX3 s) (hK : va_K D vwCl (tyL T) s) (hP : va_P D vwCl ws H) (hD : va_D A ws) (hS : va_S A H0 H locs) (hA : ∀ q, H0.size ≤ q → A q)
    {n : Int32} {N' : Nat} (hn : ¬ n < 0) (hN : n.toNatClampNeg = N') (hbytes : N' * 4 ≤ 536870912) (hcells : cells + 1 ≤ R.cells) (hslots : slots + N' ≤ R.slots) (hdg : decode cc pc = .ok (.anewarray index, 3))
    (kk : ∀ (q : Nat) (H1 : Heap), va_P D vwCl (ws ++ [(q, .inl (T 2, N', .inr (.inr (.inr (.inr fun _ => none)))))]) H1 → va_D A (ws ++ [(q, .inl (T 2, N', .inr (.inr (.inr (.inr fun _ => none)))))]) → va_S A H0 H1 locs → W p l e R s m args below meth c H1 locs (cells + 1) (slots + N') Q (F0 m (pc + 3) ls (.ref q :: rest))) : W p l e R s m args below meth c H locs cells slots Q (F0 m pc ls (.int n :: rest)) := by
  refine va_newq hexec hb hown hcl hover hK hP hD hS hA hn hN hbytes hcells hslots hdg (fun q cA H1 hK1 hP1 hD1 hS1 => ?_)
  obtain ⟨_, _, -, -, -, h1⟩ := (hK1.2 5 _ rfl).2
  obtain ⟨_, _, -, -, -, h2⟩ := (hK.2 2 _ rfl).2
  obtain rfl : cA = T 2 := Option.some.inj (h1.symm.trans h2)
  exact kk q H1 hP1 hD1 hS1
theorem Foc.new (ws : va_W) (x : Nat × va_E) (w1 : va_W) : Foc (ws ++ [x]) [x] (ws ++ w1) w1 := ⟨ws, List.perm_append_comm, List.perm_append_comm⟩
theorem PK.blind (as : List Value) (D : va_G) (T : Nat → ClassId) (ws : va_W) (sz : Nat) : FrameBlind (va_Pc as (fun U => PS D T ws sz U ∧ NX U)) := fun a U g mk q =>
  ⟨q.1, (PS.blind as D T ws sz a U g mk ⟨q.1, q.2.1⟩).2, NX.warm (U := U.calling g mk a) (State.WarmedH.refl U) q.2.2⟩
theorem wrKN {S : Type} {px : S → Prop} {w1 : S → va_W} {q : Nat} {x : va_E} (S0 : CallFix p m c cc nL s args Ts own) (hM : Met l y wsy rm (va_Pc [.ref q] (fun U => PS D T [(q, x)] H.size U ∧ NX U)) (va_Qv px (fun u t => QS D T (va_A [(q, x)] H.size) (w1 u) t) (va_A [(q, x)] H.size)) mc ms (va_A [(q, x)] H.size))
    (cw : va_CN R s args own index y host bytes maxL none wsy rm mc ms 0 ∧ y.name = "<init>" ∧ (Cond.instanceMethod y).before args s = true) (hN : NX s) (hK : va_K D vwCl (tyL T) s) (hP : va_P D vwCl (ws ++ [(q, x)]) H) (hD : va_D A0 (ws ++ [(q, x)])) (hS : va_S A0 H0 H locs) (hA : ∀ q, H0.size ≤ q → A0 q)
    (hsize : ls.size = nL) (hst : st = .ref q :: rest) (hW : (rest.map fun v => v.category).sum ≤ 8) (hcs : cells + mc ≤ R.cells ∧ slots + ms ≤ R.slots) (hdg : decode cc pc = .ok (.invokespecial index, 3))
    (kk : ∀ (u : S) (H1 : Heap) (locs1 : List Loc), px u → va_P D vwCl (ws ++ w1 u) H1 → va_D A0 (ws ++ w1 u) → va_S A0 H0 H1 locs1 → W p l e R s m args below meth c H1 locs1 (cells + mc) (slots + ms) Q (F0 m (pc + 3) ls rest)) : W p l e R s m args below meth c H locs cells slots Q (F0 m pc ls st) := by
  have F0' := fun u => Foc.new ws (q, x) (w1 u)
  have hPc : va_P D vwCl [(q, x)] H := wP_mem.mpr fun z hz => wP_mem.mp hP z (List.mem_append_right _ hz)
  have hDc : va_D A0 [(q, x)] := wD_left (wD_perm List.perm_append_comm hD)
  have hFc : ∀ z, va_A [(q, x)] H.size z → A0 z := by
    intro z h
    rcases h with ⟨k, e, h⟩ | h
    · exact hDc.2 k (z, e) h
    · exact hA z (Nat.le_trans hS.1 h)
  refine va_callv (va_runIN (As := []) S0 hM cw ⟨PK.blind _ _ _ _ _, fun U hU hW => ⟨rfl, ⟨by rw [hU], by rw [hU]; exact hPc, va_K.moved hW.alike hK, hDc.weaken (fun _ _ _ _ => trivial)⟩, hN.warm hW⟩⟩ rfl rfl hsize hst (lv_room hW) hdg hcs) hS (fun q _ h => hFc q h) hFc (fun u t H1 locs1 ht hvm hw hB hz1 hk1 hS1 => ?_)
  obtain ⟨hP1, hK1, hD1⟩ := hB
  rw [ht] at hP1
  obtain ⟨g1, g2⟩ := (F0' u).join hP hD hk1 hFc hP1 hD1
  exact kk u H1 locs1 hw g1 g2 hS1
theorem wrK0 {S : Type} {px : S → Prop} {w1 : S → va_W} {q : Nat} {x : va_E} (S0 : CallFix p m c cc nL s args Ts own) (hM : Met l y wsy rm (va_Pc [.ref q] (fun U => PS D T [(q, x)] H.size U ∧ NX U)) (va_Qv px (fun u t => QS D T (va_A [(q, x)] H.size) (w1 u) t) (va_A [(q, x)] H.size)) mc ms (va_A [(q, x)] H.size))
    (cw : CallB R s args own index y bytes maxL none wsy rm mc ms 0 ∧ y.name = "<init>" ∧ (Cond.instanceMethod y).before args s = true) (hN : NX s) (hK : va_K D vwCl (tyL T) s) (hP : va_P D vwCl (ws ++ [(q, x)]) H) (hD : va_D A0 (ws ++ [(q, x)])) (hS : va_S A0 H0 H locs) (hA : ∀ q, H0.size ≤ q → A0 q)
    (hsize : ls.size = nL) (hst : st = .ref q :: rest) (hW : (rest.map fun v => v.category).sum ≤ 8) (hcs : cells + mc ≤ R.cells ∧ slots + ms ≤ R.slots) (hdg : decode cc pc = .ok (.invokespecial index, 3))
    (kk : ∀ (u : S) (H1 : Heap) (locs1 : List Loc), px u → va_P D vwCl (ws ++ w1 u) H1 → va_D A0 (ws ++ w1 u) → va_S A0 H0 H1 locs1 → W p l e R s m args below meth c H1 locs1 (cells + mc) (slots + ms) Q (F0 m (pc + 3) ls rest)) : W p l e R s m args below meth c H locs cells slots Q (F0 m pc ls st) := by
  have F0' := fun u => Foc.new ws (q, x) (w1 u)
  have hPc : va_P D vwCl [(q, x)] H := wP_mem.mpr fun z hz => wP_mem.mp hP z (List.mem_append_right _ hz)
  have hDc : va_D A0 [(q, x)] := wD_left (wD_perm List.perm_append_comm hD)
  have hFc : ∀ z, va_A [(q, x)] H.size z → A0 z := by
    intro z h
    rcases h with ⟨k, e, h⟩ | h
    · exact hDc.2 k (z, e) h
    · exact hA z (Nat.le_trans hS.1 h)
  refine va_callv (va_runI (As := []) S0 hM cw ⟨PK.blind _ _ _ _ _, fun U hU hW => ⟨rfl, ⟨by rw [hU], by rw [hU]; exact hPc, va_K.moved hW.alike hK, hDc.weaken (fun _ _ _ _ => trivial)⟩, hN.warm hW⟩⟩ rfl rfl hsize hst (lv_room hW) hdg hcs) hS (fun q _ h => hFc q h) hFc (fun u t H1 locs1 ht hvm hw hB hz1 hk1 hS1 => ?_)
  obtain ⟨hP1, hK1, hD1⟩ := hB
  rw [ht] at hP1
  obtain ⟨g1, g2⟩ := (F0' u).join hP hD hk1 hFc hP1 hD1
  exact kk u H1 locs1 hw g1 g2 hS1
end NR
section MK
variable {l : Launch} {y : MethodName} {ws ws' : List Cond} {rm : Room} {as : List Value} {D : va_G} {T : Nat → ClassId} {w : va_W} {cc : ByteArray} {maxL sz : Nat} {B : State → Prop}
theorem metK {S : Type} {px : S → Prop} {w1 : S → va_W} {mc ms : Nat} (hy : plainName y.cls = true) (hw : ws = Cond.code y cc maxL none :: ws') (hlen : (lg_sl as).length ≤ maxL) (hnm : y.name = "<init>")
    (body : ∀ (p : Program) (e : Env) (s : State) (m : MethodId) (args : Array Value) (below : List Frame) (meth : Method) (c : Code) (Q : State → Prop) (ls : Array Slot) (A : Nat → Prop), p.tables.exec = Jvm.exec → c.code = cc → c.maxLocals = maxL → s.vm.findClass y.cls = some m.cls → (∀ q ∈ ws, q.before args s = true) → A = va_A w s.heap.size → (sz = s.heap.size) → B s → va_P D vwCl w s.heap → va_K D vwCl (tyL T) s → va_D A w → (∀ q : Nat, s.heap.size ≤ q → A q) → va_S A s.heap s.heap [] → lv_has ls maxL (lv_args 0 as) → meth.name = "<init>" →
      (∀ (u : S) (H : Heap) (locs : List Loc) (ls : Array Slot) (pc : Nat), px u → decode cc pc = .ok (.return_, 1) → va_P D vwCl (w1 u) H → va_D A (w1 u) → va_S A s.heap H locs → W p l e rm s m args below meth c H locs mc ms Q (F0 m pc ls [])) →
      W p l e rm s m args below meth c s.heap [] 0 0 Q (F0 m 0 ls [])) : Met l y ws rm (va_Pc as (fun U => PS D T w sz U ∧ B U)) (va_Qv px (fun u t => QS D T (va_A w sz) (w1 u) t) (va_A w sz)) mc ms (va_A w sz) := by
  refine Met.ofW (cc := cc) (maxL := maxL) (ret := none) hy hw ?_
  intro p e s m args below meth c s₁ Bd hml hv
  obtain ⟨rfl, ⟨hsz, hP, hK, hD0⟩, hB⟩ := hv
  subst hsz
  have hts := atoms_spec (ws := ws) Bd.pre
  have hown : s.vm.findClass y.cls = some m.cls := findClass_of_methodNamed Bd.named
  have hlocks := Bd.notSynchronized
  have hin : meth.name = "<init>" := (name_of_methodNamed Bd.named Bd.method).1.trans hnm
  have hl := lv_entry as (n := maxL) hlen
  rw [lg_entry_eq]
  refine body p e s m _ below meth c _ _ (va_A w s.heap.size) Bd.exec Bd.bytes hml hown hts rfl rfl hB hP hK (hD0.self (sz := s.heap.size)) (fun q h => Or.inr h) va_S.rf hl hin (fun u H locs ls pc hu hd hP1 hD1 hS => ?_)
  exact W.vret Bd.exec Bd.bytes Bd.returns (fun t ht hW => ⟨⟨u, rfl, hu, by rw [ht]; exact hP1, va_K.moved hW.alike hK, hD1⟩, hS.F ht⟩) hS.2.2 hd
end MK
