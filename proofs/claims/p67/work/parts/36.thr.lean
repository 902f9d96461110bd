/-! methods that may throw: contracts, calls, the throw itself -/
def orE : Option String → Option String → Option String
  | some E, _ => some E
  | none, k => k
def chk (z lo hi : Int32) : Option String := if rg z lo hi then none else some "java/lang/IllegalArgumentException"
theorem chk_t {z lo hi : Int32} (h : chk z lo hi = none) : rg z lo hi = true := by
  unfold chk at h
  split at h
  · assumption
  · cases h
section XC
variable {p : Program} {l : Launch} {e : Env} {R : Room} {s : State} {m : MethodId} {args : Array Value} {below : List Frame} {meth : Method} {c : Code} {H H0 : Heap} {locs : List Loc} {cells slots : Nat} {Q : State → Prop}
  {Ts wsy : List Cond} {cc bytes : ByteArray} {nL maxL index n mc ms pc : Nat} {own C : String} {y : MethodName} {ret : Option FieldType} {rm : Room} {b : Addr} {As rest st : List Value} {ls : Array Slot}
  {D : va_G} {T : Nat → ClassId} {ws wc ws1 wc1 wsx wcx : va_W} {A0 : Nat → Prop} {aK aV : Nat → Nat} {cd : Option String}
theorem wxVi {r : Int32} {T' : u_T} {N' ci : Nat} {fs : List Value} (S : CallFix p m c cc nL s args Ts own)
    (hM : vx_Met l y wsy rm (va_Pc (.ref b :: As) (PSc D T aK aV wc H.size)) (va_Qi (fun r' (_ : Unit) => cd = none ∧ r' = r) (fun _ t => QS D T (va_A wc H.size) wc1 t) (va_A wc H.size)) (vx_X (fun (_ : Unit) => True) (fun E _ t => cd = some E ∧ QS D T (va_A wc H.size) wcx t) (va_A wc H.size)) mc ms (va_A wc H.size))
    (cw : CallW R s args own C index y bytes maxL ret wsy rm mc ms n) (F : Foc ws wc ws1 wc1) (Fx : Foc ws wc wsx wcx) (hC : CX aK aV A0 s H0) (hK : va_K D vwCl (tyL T) s) (hP : va_P D vwCl ws H) (hD : va_D A0 ws) (hS : va_S A0 H0 H locs) (hA : ∀ q, H0.size ≤ q → A0 q)
    (q0 : Nat) (he : wc[q0]? = some (b, .inr (ci, fs))) (hc : vwCl[ci]? = some (C, T', N')) (hn : As.length = n) (hsize : ls.size = nL) (hst : st = As.reverse ++ .ref b :: rest) (hW : (rest.map fun v => v.category).sum ≤ 8) (hcs : cells + mc ≤ R.cells ∧ slots + ms ≤ R.slots) (hdg : decode cc pc = .ok (.invokevirtual index, 3))
    (kx : ∀ (E : String) (ce : Cell) (q9 : Addr) (H1 : Heap) (locs1 : List Loc), cd = some E → va_P D vwCl wsx H1 → va_D A0 wsx → va_S A0 H0 H1 locs1 → H1[q9]? = some ce → ce.vm = .none → s.vm.findClass E = some ce.cls → vx_W p l e R s m args below meth c H1 locs1 (cells + mc) (slots + ms) Q (F0 m pc ls rest) q9)
    (kk : ∀ (H1 : Heap) (locs1 : List Loc), cd = none → va_P D vwCl ws1 H1 → va_D A0 ws1 → va_S A0 H0 H1 locs1 → W p l e R s m args below meth c H1 locs1 (cells + mc) (slots + ms) Q (F0 m (pc + 3) ls (.int r :: rest))) : W p l e R s m args below meth c H locs cells slots Q (F0 m pc ls st) := by
  have hPc := F.subP hP
  have hDc := F.subD hD
  have hFc := F.free hD hS hA
  refine vx_calli (vx_runV S hM cw ⟨PSc.blind _ _ _ _ _ _ _, va_recv hK hPc hc he, fun U hU hW => ⟨rfl, ⟨by rw [hU], by rw [hU]; exact hPc, va_K.moved hW.alike hK, hDc.weaken (fun _ _ _ _ => trivial)⟩, hC.call hS hFc hU hW⟩⟩ rfl hn hsize hst (lv_room hW) hdg hcs) hS (fun q _ h => hFc q h) hFc (fun q _ h => hFc q h)
    (fun E ce q9 u t H1 locs1 ht hvm hw hB hz1 hk1 hS1 hce hcv hcl => ?_) (fun r1 u t H1 locs1 ht hvm hw hB hz1 hk1 hS1 => ?_)
  · obtain ⟨hcd, hP1, hK1, hD1⟩ := hB
    rw [ht] at hP1
    obtain ⟨g1, g2⟩ := Fx.join hP hD hk1 hFc hP1 hD1
    exact kx E ce q9 H1 locs1 hcd g1 g2 hS1 hce hcv hcl
  · obtain ⟨hP1, hK1, hD1⟩ := hB
    obtain ⟨hcd, hw⟩ := hw
    rw [ht] at hP1
    obtain ⟨g1, g2⟩ := F.join hP hD hk1 hFc hP1 hD1
    subst hw
    exact kk H1 locs1 hcd g1 g2 hS1
theorem wxVv {T' : u_T} {N' ci : Nat} {fs : List Value} (S : CallFix p m c cc nL s args Ts own)
    (hM : vx_Met l y wsy rm (va_Pc (.ref b :: As) (PSc D T aK aV wc H.size)) (va_Qv (fun (_ : Unit) => cd = none) (fun _ t => QS D T (va_A wc H.size) wc1 t) (va_A wc H.size)) (vx_X (fun (_ : Unit) => True) (fun E _ t => cd = some E ∧ QS D T (va_A wc H.size) wcx t) (va_A wc H.size)) mc ms (va_A wc H.size))
    (cw : CallW R s args own C index y bytes maxL ret wsy rm mc ms n) (F : Foc ws wc ws1 wc1) (Fx : Foc ws wc wsx wcx) (hC : CX aK aV A0 s H0) (hK : va_K D vwCl (tyL T) s) (hP : va_P D vwCl ws H) (hD : va_D A0 ws) (hS : va_S A0 H0 H locs) (hA : ∀ q, H0.size ≤ q → A0 q)
    (q0 : Nat) (he : wc[q0]? = some (b, .inr (ci, fs))) (hc : vwCl[ci]? = some (C, T', N')) (hn : As.length = n) (hsize : ls.size = nL) (hst : st = As.reverse ++ .ref b :: rest) (hW : (rest.map fun v => v.category).sum ≤ 8) (hcs : cells + mc ≤ R.cells ∧ slots + ms ≤ R.slots) (hdg : decode cc pc = .ok (.invokevirtual index, 3))
    (kx : ∀ (E : String) (ce : Cell) (q9 : Addr) (H1 : Heap) (locs1 : List Loc), cd = some E → va_P D vwCl wsx H1 → va_D A0 wsx → va_S A0 H0 H1 locs1 → H1[q9]? = some ce → ce.vm = .none → s.vm.findClass E = some ce.cls → vx_W p l e R s m args below meth c H1 locs1 (cells + mc) (slots + ms) Q (F0 m pc ls rest) q9)
    (kk : ∀ (H1 : Heap) (locs1 : List Loc), cd = none → va_P D vwCl ws1 H1 → va_D A0 ws1 → va_S A0 H0 H1 locs1 → W p l e R s m args below meth c H1 locs1 (cells + mc) (slots + ms) Q (F0 m (pc + 3) ls rest)) : W p l e R s m args below meth c H locs cells slots Q (F0 m pc ls st) := by
  have hPc := F.subP hP
  have hDc := F.subD hD
  have hFc := F.free hD hS hA
  refine vx_callv (vx_runV S hM cw ⟨PSc.blind _ _ _ _ _ _ _, va_recv hK hPc hc he, fun U hU hW => ⟨rfl, ⟨by rw [hU], by rw [hU]; exact hPc, va_K.moved hW.alike hK, hDc.weaken (fun _ _ _ _ => trivial)⟩, hC.call hS hFc hU hW⟩⟩ rfl hn hsize hst (lv_room hW) hdg hcs) hS (fun q _ h => hFc q h) hFc (fun q _ h => hFc q h)
    (fun E ce q9 u t H1 locs1 ht hvm hw hB hz1 hk1 hS1 hce hcv hcl => ?_) (fun u t H1 locs1 ht hvm hw hB hz1 hk1 hS1 => ?_)
  · obtain ⟨hcd, hP1, hK1, hD1⟩ := hB
    rw [ht] at hP1
    obtain ⟨g1, g2⟩ := Fx.join hP hD hk1 hFc hP1 hD1
    exact kx E ce q9 H1 locs1 hcd g1 g2 hS1 hce hcv hcl
  · obtain ⟨hP1, hK1, hD1⟩ := hB
    rw [ht] at hP1
    obtain ⟨g1, g2⟩ := F.join hP hD hk1 hFc hP1 hD1
    exact kk H1 locs1 hw g1 g2 hS1
theorem wxSv (S : CallFix p m c cc nL s args Ts own)
    (hM : vx_Met l y wsy rm (va_Pc As (PSc D T aK aV wc H.size)) (va_Qv (fun (_ : Unit) => cd = none) (fun _ t => QS D T (va_A wc H.size) wc1 t) (va_A wc H.size)) (vx_X (fun (_ : Unit) => True) (fun E _ t => cd = some E ∧ QS D T (va_A wc H.size) wcx t) (va_A wc H.size)) mc ms (va_A wc H.size))
    (cw : CallB R s args own index y bytes maxL ret wsy rm mc ms n ∧ (Cond.static y).before args s = true) (F : Foc ws wc ws1 wc1) (Fx : Foc ws wc wsx wcx) (hC : CX aK aV A0 s H0) (hK : va_K D vwCl (tyL T) s) (hP : va_P D vwCl ws H) (hD : va_D A0 ws) (hS : va_S A0 H0 H locs) (hA : ∀ q, H0.size ≤ q → A0 q)
    (hn : As.length = n) (hsize : ls.size = nL) (hst : st = As.reverse ++ rest) (hW : (rest.map fun v => v.category).sum ≤ 8) (hcs : cells + mc ≤ R.cells ∧ slots + ms ≤ R.slots) (hdg : decode cc pc = .ok (.invokestatic index, 3))
    (kx : ∀ (E : String) (ce : Cell) (q9 : Addr) (H1 : Heap) (locs1 : List Loc), cd = some E → va_P D vwCl wsx H1 → va_D A0 wsx → va_S A0 H0 H1 locs1 → H1[q9]? = some ce → ce.vm = .none → s.vm.findClass E = some ce.cls → vx_W p l e R s m args below meth c H1 locs1 (cells + mc) (slots + ms) Q (F0 m pc ls rest) q9)
    (kk : ∀ (H1 : Heap) (locs1 : List Loc), cd = none → va_P D vwCl ws1 H1 → va_D A0 ws1 → va_S A0 H0 H1 locs1 → W p l e R s m args below meth c H1 locs1 (cells + mc) (slots + ms) Q (F0 m (pc + 3) ls rest)) : W p l e R s m args below meth c H locs cells slots Q (F0 m pc ls st) := by
  have hPc := F.subP hP
  have hDc := F.subD hD
  have hFc := F.free hD hS hA
  refine vx_callv (vx_runS S hM cw ⟨PSc.blind _ _ _ _ _ _ _, fun U hU hW => ⟨rfl, ⟨by rw [hU], by rw [hU]; exact hPc, va_K.moved hW.alike hK, hDc.weaken (fun _ _ _ _ => trivial)⟩, hC.call hS hFc hU hW⟩⟩ rfl hn hsize hst (lv_room hW) hdg hcs) hS (fun q _ h => hFc q h) hFc (fun q _ h => hFc q h)
    (fun E ce q9 u t H1 locs1 ht hvm hw hB hz1 hk1 hS1 hce hcv hcl => ?_) (fun u t H1 locs1 ht hvm hw hB hz1 hk1 hS1 => ?_)
  · obtain ⟨hcd, hP1, hK1, hD1⟩ := hB
    rw [ht] at hP1
    obtain ⟨g1, g2⟩ := Fx.join hP hD hk1 hFc hP1 hD1
    exact kx E ce q9 H1 locs1 hcd g1 g2 hS1 hce hcv hcl
  · obtain ⟨hP1, hK1, hD1⟩ := hB
    rw [ht] at hP1
    obtain ⟨g1, g2⟩ := F.join hP hD hk1 hFc hP1 hD1
    exact kk H1 locs1 hw g1 g2 hS1
theorem Foc.nil (ws : va_W) : Foc ws [] ws [] := ⟨ws, List.Perm.refl _, List.Perm.refl _⟩
end XC
section MX
variable {l : Launch} {y : MethodName} {ws ws' : List Cond} {rm : Room} {as : List Value} {D : va_G} {T : Nat → ClassId} {w w1 wx : va_W} {cc : ByteArray} {maxL : Nat} {ty : FieldType} {sz mc ms : Nat} {aK aV : Nat → Nat} {cd : Option String}
theorem thr_QS {D : va_G} {T : Nat → ClassId} {wx : va_W} {A : Nat → Prop} {s t : State} {H : Heap} {locs : List Loc} (hK : va_K D vwCl (tyL T) s) (hP : va_P D vwCl wx H) (hD : va_D A wx) (hS : va_S A s.heap H locs) (hv : s.vm.Alike t.vm) (hz : H.size ≤ t.heap.size) (hk : ∀ q : Nat, q < H.size → t.heap[q]? = H[q]?) : QS D T A wx t ∧ va_F A s t :=
  ⟨⟨hP.kept (fun k x hx => hk x.1 (hP k x hx).lt), va_K.moved hv hK, hD⟩, Nat.le_trans hS.1 hz, fun q h1 h2 => (hk q (Nat.lt_of_lt_of_le h1 hS.1)).trans (hS.2.1 q h1 h2)⟩
theorem metXi {r : Int32} (hy : plainName y.cls = true) (hw : ws = Cond.code y cc maxL (some ty) :: ws') (hn : narrow ty (.int r) = .int r) (hlen : (lg_sl as).length ≤ maxL)
    (body : ∀ (p : Program) (e : Env) (s : State) (m : MethodId) (args : Array Value) (below : List Frame) (meth : Method) (c : Code) (Qc : Array Value → State → Outcome → State → Prop) (XC : String → State → State → Prop) (free : Addr → Prop) (ls : Array Slot) (A : Nat → Prop), p.tables.exec = Jvm.exec → c.code = cc → c.maxLocals = maxL → s.vm.findClass y.cls = some m.cls → (∀ q ∈ ws, q.before args s = true) → CX aK aV A s s.heap → va_P D vwCl w s.heap → va_K D vwCl (tyL T) s → va_D A w → (∀ q : Nat, s.heap.size ≤ q → A q) → va_S A s.heap s.heap [] → lv_has ls maxL (lv_args 0 as) → (∀ x ∈ c.exceptionTable.toList, False) → meth.locks = false → (∀ z, A z → free z) →
      (∀ (H : Heap) (locs : List Loc) (ls : Array Slot) (pc k n : Nat), decode cc pc = .ok (.ireturn, 1) → cd = none → va_P D vwCl w1 H → va_D A w1 → va_S A s.heap H locs → k ≤ mc → n ≤ ms → W p l e rm s m args below meth c H locs k n (vx_MQ below Qc XC args s mc ms free) (F0 m pc ls [.int r])) →
      (∀ (H : Heap) (locs : List Loc) (E : String) (t : State), cd = some E → va_P D vwCl wx H → va_D A wx → va_S A s.heap H locs → s.vm.Alike t.vm → H.size ≤ t.heap.size → (∀ q : Nat, q < H.size → t.heap[q]? = H[q]?) → XC E s t) →
      W p l e rm s m args below meth c s.heap [] 0 0 (vx_MQ below Qc XC args s mc ms free) (F0 m 0 ls [])) :
    vx_Met l y ws rm (va_Pc as (PSc D T aK aV w sz)) (va_Qi (fun r' (_ : Unit) => cd = none ∧ r' = r) (fun _ t => QS D T (va_A w sz) w1 t) (va_A w sz)) (vx_X (fun (_ : Unit) => True) (fun E _ t => cd = some E ∧ QS D T (va_A w sz) wx t) (va_A w sz)) mc ms (va_A w sz) := by
  refine vx_ofW (cc := cc) (maxL := maxL) (ret := some ty) hy hw ?_
  intro p e s m args below meth c s₁ B hml htab hv
  obtain ⟨rfl, ⟨hsz, hP, hK, hD0⟩, hC⟩ := hv
  subst hsz
  have hts := atoms_spec (ws := ws) B.pre
  have hown : s.vm.findClass y.cls = some m.cls := findClass_of_methodNamed B.named
  have hlocks := B.notSynchronized
  have hl := lv_entry as (n := maxL) hlen
  rw [lg_entry_eq]
  refine body p e s m _ below meth c _ _ (va_A w s.heap.size) _ (va_A w s.heap.size) B.exec B.bytes hml hown hts hC hP hK (hD0.self (sz := s.heap.size)) (fun q h => Or.inr h) va_S.rf hl htab hlocks (fun _ h => h) (fun H locs ls pc k n hd hcd hP1 hD1 hS hk1 hn1 => ?_) (fun H locs E t hcd hP1 hD1 hS hv hz hk => ?_)
  · refine vx_ret ?_
    refine W.widen (k := mc) (n := ms) hk1 hn1 ?_
    exact W.zret B.exec B.bytes B.returns hn (fun t ht hW => ⟨⟨r, (), rfl, ⟨hcd, rfl⟩, by rw [ht]; exact hP1, va_K.moved hW.alike hK, hD1⟩, hS.F ht⟩) hS.2.2 hd
  · obtain ⟨g1, g2⟩ := thr_QS hK hP1 hD1 hS hv hz hk
    exact ⟨(), trivial, ⟨hcd, g1⟩, g2⟩
theorem metXv (hy : plainName y.cls = true) (hw : ws = Cond.code y cc maxL none :: ws') (hlen : (lg_sl as).length ≤ maxL)
    (body : ∀ (p : Program) (e : Env) (s : State) (m : MethodId) (args : Array Value) (below : List Frame) (meth : Method) (c : Code) (Qc : Array Value → State → Outcome → State → Prop) (XC : String → State → State → Prop) (free : Addr → Prop) (ls : Array Slot) (A : Nat → Prop), p.tables.exec = Jvm.exec → c.code = cc → c.maxLocals = maxL → s.vm.findClass y.cls = some m.cls → (∀ q ∈ ws, q.before args s = true) → CX aK aV A s s.heap → va_P D vwCl w s.heap → va_K D vwCl (tyL T) s → va_D A w → (∀ q : Nat, s.heap.size ≤ q → A q) → va_S A s.heap s.heap [] → lv_has ls maxL (lv_args 0 as) → (∀ x ∈ c.exceptionTable.toList, False) → meth.locks = false → (∀ z, A z → free z) →
      (∀ (H : Heap) (locs : List Loc) (ls : Array Slot) (pc k n : Nat), decode cc pc = .ok (.return_, 1) → cd = none → va_P D vwCl w1 H → va_D A w1 → va_S A s.heap H locs → k ≤ mc → n ≤ ms → W p l e rm s m args below meth c H locs k n (vx_MQ below Qc XC args s mc ms free) (F0 m pc ls [])) →
      (∀ (H : Heap) (locs : List Loc) (E : String) (t : State), cd = some E → va_P D vwCl wx H → va_D A wx → va_S A s.heap H locs → s.vm.Alike t.vm → H.size ≤ t.heap.size → (∀ q : Nat, q < H.size → t.heap[q]? = H[q]?) → XC E s t) →
      W p l e rm s m args below meth c s.heap [] 0 0 (vx_MQ below Qc XC args s mc ms free) (F0 m 0 ls [])) :
    vx_Met l y ws rm (va_Pc as (PSc D T aK aV w sz)) (va_Qv (fun (_ : Unit) => cd = none) (fun _ t => QS D T (va_A w sz) w1 t) (va_A w sz)) (vx_X (fun (_ : Unit) => True) (fun E _ t => cd = some E ∧ QS D T (va_A w sz) wx t) (va_A w sz)) mc ms (va_A w sz) := by
  refine vx_ofW (cc := cc) (maxL := maxL) (ret := none) hy hw ?_
  intro p e s m args below meth c s₁ B hml htab hv
  obtain ⟨rfl, ⟨hsz, hP, hK, hD0⟩, hC⟩ := hv
  subst hsz
  have hts := atoms_spec (ws := ws) B.pre
  have hown : s.vm.findClass y.cls = some m.cls := findClass_of_methodNamed B.named
  have hlocks := B.notSynchronized
  have hl := lv_entry as (n := maxL) hlen
  rw [lg_entry_eq]
  refine body p e s m _ below meth c _ _ (va_A w s.heap.size) _ (va_A w s.heap.size) B.exec B.bytes hml hown hts hC hP hK (hD0.self (sz := s.heap.size)) (fun q h => Or.inr h) va_S.rf hl htab hlocks (fun _ h => h) (fun H locs ls pc k n hd hcd hP1 hD1 hS hk1 hn1 => ?_) (fun H locs E t hcd hP1 hD1 hS hv hz hk => ?_)
  · refine vx_ret ?_
    refine W.widen (k := mc) (n := ms) hk1 hn1 ?_
    exact W.vret B.exec B.bytes B.returns (fun t ht hW => ⟨⟨(), rfl, hcd, by rw [ht]; exact hP1, va_K.moved hW.alike hK, hD1⟩, hS.F ht⟩) hS.2.2 hd
  · obtain ⟨g1, g2⟩ := thr_QS hK hP1 hD1 hS hv hz hk
    exact ⟨(), trivial, ⟨hcd, g1⟩, g2⟩
end MX
theorem tg_96 : ∀ w ∈ Cond.classLink RX9 92 "java/lang/IllegalArgumentException" :: Cond.initialized "java/lang/IllegalArgumentException" :: vx_atS RX9 96 "java/lang/IllegalArgumentException" supL, vx_ot w = true := by decide +kernel
theorem tb_96 : ∀ w ∈ (vx_atS RX9 96 "java/lang/IllegalArgumentException" supL).filter (fun w => !goodWord w), w ∈ badW "java/lang/IllegalArgumentException" := by decide +kernel
theorem tg_86 : ∀ w ∈ Cond.classLink RX9 82 "java/lang/IllegalStateException" :: Cond.initialized "java/lang/IllegalStateException" :: vx_atS RX9 86 "java/lang/IllegalStateException" supL, vx_ot w = true := by decide +kernel
theorem tb_86 : ∀ w ∈ (vx_atS RX9 86 "java/lang/IllegalStateException" supL).filter (fun w => !goodWord w), w ∈ badW "java/lang/IllegalStateException" := by decide +kernel
theorem tg_120 : ∀ w ∈ Cond.classLink RX9 116 "java/util/NoSuchElementException" :: Cond.initialized "java/util/NoSuchElementException" :: vx_atN RX9 120 "java/util/NoSuchElementException" supL, vx_ot w = true := by decide +kernel
theorem tb_120 : ∀ w ∈ (vx_atN RX9 120 "java/util/NoSuchElementException" supL).filter (fun w => !goodWord w), w ∈ badW "java/util/NoSuchElementException" := by decide +kernel
theorem tg_301 : ∀ w ∈ Cond.classLink RX9 297 "java/lang/IndexOutOfBoundsException" :: Cond.initialized "java/lang/IndexOutOfBoundsException" :: vx_atS RX9 301 "java/lang/IndexOutOfBoundsException" supL, vx_ot w = true := by decide +kernel
theorem tb_301 : ∀ w ∈ (vx_atS RX9 301 "java/lang/IndexOutOfBoundsException" supL).filter (fun w => !goodWord w), w ∈ badW "java/lang/IndexOutOfBoundsException" := by decide +kernel
