/-! worlds of this claim: array classes, what a world is at a call, cutting a world (Foc), calls -/
abbrev tyL (T : Nat → ClassId) : List (ClassId × FieldType) := [(T 0, .int), (T 1, .boolean), (T 2, .object "MoonComplaintWindow$Office"), (T 3, .byte), (T 4, .object "java/lang/String")]
def PR (D : va_G) (T : Nat → ClassId) (ws : va_W) (U : State) : Prop := va_P D vwCl ws U.heap ∧ va_K D vwCl (tyL T) U
def PS (D : va_G) (T : Nat → ClassId) (ws : va_W) (sz : Nat) (U : State) : Prop := U.heap.size = sz ∧ va_P D vwCl ws U.heap ∧ va_K D vwCl (tyL T) U ∧ va_D (fun _ => True) ws
def QS (D : va_G) (T : Nat → ClassId) (A : Nat → Prop) (ws : va_W) (t : State) : Prop := va_P D vwCl ws t.heap ∧ va_K D vwCl (tyL T) t ∧ va_D A ws
theorem PR.blind (as : List Value) (D : va_G) (T : Nat → ClassId) (ws : va_W) : FrameBlind (va_Pc as (PR D T ws)) := fun a U g mk q => ⟨q.1, q.2.1, va_K.moved (u := U) (U := U.calling g mk a) (Vm.Alike.refl U.vm) q.2.2⟩
theorem PS.blind (as : List Value) (D : va_G) (T : Nat → ClassId) (ws : va_W) (sz : Nat) : FrameBlind (va_Pc as (PS D T ws sz)) := fun a U g mk q => ⟨q.1, q.2.1, q.2.2.1, va_K.moved (u := U) (U := U.calling g mk a) (Vm.Alike.refl U.vm) q.2.2.2.1, q.2.2.2.2⟩
theorem PT.blind (as : List Value) : FrameBlind (va_Pc as (fun _ => True)) := fun _ _ _ _ q => ⟨q.1, trivial⟩
/-- a world by its members -/
theorem wP_mem {D : va_G} {cl : List vw_C} {ws : va_W} {H : Heap} : va_P D cl ws H ↔ ∀ q ∈ ws, va_at D cl q H :=
  ⟨fun h q hq => by obtain ⟨k, hk⟩ := List.mem_iff_getElem?.mp hq; exact h k q hk, fun h k q hk => h q (List.mem_of_getElem? hk)⟩
theorem wD_mem {A : Nat → Prop} {ws : va_W} : va_D A ws ↔ (ws.map Prod.fst).Nodup ∧ ∀ q ∈ ws, A q.1 := by
  constructor
  · intro h
    refine ⟨?_, fun q hq => by obtain ⟨k, hk⟩ := List.mem_iff_getElem?.mp hq; exact h.2 k q hk⟩
    rw [List.Nodup, List.pairwise_iff_getElem]
    intro i j hi hj hij he
    rw [List.length_map] at hi hj
    rw [List.getElem_map, List.getElem_map] at he
    have := h.1 i j _ _ (List.getElem?_eq_getElem hi) (List.getElem?_eq_getElem hj) he
    omega
  · intro h
    refine ⟨fun i j p q hp hq e => ?_, fun k q hk => h.2 q (List.mem_of_getElem? hk)⟩
    obtain ⟨hi, rfl⟩ := List.getElem?_eq_some_iff.mp hp
    obtain ⟨hj, rfl⟩ := List.getElem?_eq_some_iff.mp hq
    have h1 := h.1
    rw [List.Nodup, List.pairwise_iff_getElem] at h1
    rcases Nat.lt_trichotomy i j with g | g | g
    · exact absurd (by rw [List.getElem_map, List.getElem_map]; exact e) (h1 i j (by rw [List.length_map]; exact hi) (by rw [List.length_map]; exact hj) g)
    · exact g
    · exact absurd (by rw [List.getElem_map, List.getElem_map]; exact e.symm) (h1 j i (by rw [List.length_map]; exact hj) (by rw [List.length_map]; exact hi) g)
/-- a callee's world wc cut out of the caller's ws; what it becomes (wc1) makes ws into ws1 -/
def Foc (ws wc ws1 wc1 : va_W) : Prop := ∃ wr : va_W, ws.Perm (wc ++ wr) ∧ ws1.Perm (wc1 ++ wr)
theorem Foc.rfl (ws ws1 : va_W) : Foc ws ws ws1 ws1 := ⟨[], by rw [List.append_nil], by rw [List.append_nil]⟩
theorem Foc.seg (l m r m1 : va_W) : Foc (l ++ (m ++ r)) m (l ++ (m1 ++ r)) m1 := by
  refine ⟨l ++ r, ?_, ?_⟩ <;>
  · rw [← List.append_assoc, ← List.append_assoc]
    exact List.Perm.append_right r List.perm_append_comm
theorem wP_perm {D : va_G} {cl : List vw_C} {ws ws' : va_W} {H : Heap} (h : ws.Perm ws') (hP : va_P D cl ws H) : va_P D cl ws' H := wP_mem.mpr fun q hq => wP_mem.mp hP q (h.mem_iff.mpr hq)
theorem wD_perm {A : Nat → Prop} {ws ws' : va_W} (h : ws.Perm ws') (hD : va_D A ws) : va_D A ws' := by
  rw [wD_mem] at hD ⊢
  exact ⟨(h.map Prod.fst).nodup_iff.mp hD.1, fun q hq => hD.2 q (h.mem_iff.mpr hq)⟩
theorem wD_left {A : Nat → Prop} {w1 w2 : va_W} (hD : va_D A (w1 ++ w2)) : va_D A w1 := by
  rw [wD_mem] at hD ⊢
  refine ⟨?_, fun q hq => hD.2 q (List.mem_append_left _ hq)⟩
  have h := hD.1
  rw [List.map_append, List.nodup_append] at h
  exact h.1
theorem Foc.subP {ws wc ws1 wc1 : va_W} (F : Foc ws wc ws1 wc1) {D : va_G} {cl : List vw_C} {H : Heap} (hP : va_P D cl ws H) : va_P D cl wc H := by
  obtain ⟨wr, h, -⟩ := F
  exact wP_mem.mpr fun q hq => wP_mem.mp hP q (h.mem_iff.mpr (List.mem_append_left _ hq))
theorem Foc.subD {ws wc ws1 wc1 : va_W} (F : Foc ws wc ws1 wc1) {A : Nat → Prop} (hD : va_D A ws) : va_D A wc := by
  obtain ⟨wr, h, -⟩ := F
  exact wD_left (wD_perm h hD)
theorem Foc.free {ws wc ws1 wc1 : va_W} (F : Foc ws wc ws1 wc1) {A0 : Nat → Prop} {H0 H : Heap} {locs : List Loc} (hD : va_D A0 ws) (hS : va_S A0 H0 H locs) (hA : ∀ q, H0.size ≤ q → A0 q) : ∀ q, va_A wc H.size q → A0 q := by
  intro q h
  rcases h with ⟨k, e, h⟩ | h
  · exact (F.subD hD).2 k (q, e) h
  · exact hA q (Nat.le_trans hS.1 h)
theorem Foc.join {ws wc ws1 wc1 : va_W} (F : Foc ws wc ws1 wc1) {D : va_G} {cl : List vw_C} {A0 : Nat → Prop} {H H1 : Heap} (hP : va_P D cl ws H) (hD : va_D A0 ws)
    (hk : ∀ q : Nat, q < H.size → ¬ va_A wc H.size q → H1[q]? = H[q]?) (hF : ∀ q, va_A wc H.size q → A0 q) (hP1 : va_P D cl wc1 H1) (hD1 : va_D (va_A wc H.size) wc1) : va_P D cl ws1 H1 ∧ va_D A0 ws1 := by
  obtain ⟨wr, h1, h2⟩ := F
  have hP' := wP_mem.mp (wP_perm h1 hP)
  have hD' := wD_mem.mp (wD_perm h1 hD)
  have hn := hD'.1
  rw [List.map_append, List.nodup_append] at hn
  have apart : ∀ q ∈ wr, q.1 < H.size ∧ ¬ va_A wc H.size q.1 := by
    intro q hq
    have hl := (hP' q (List.mem_append_right _ hq)).lt
    refine ⟨hl, fun h => ?_⟩
    rcases h with ⟨k, e, h⟩ | h
    · exact hn.2.2 q.1 (List.mem_map.mpr ⟨(q.1, e), List.mem_of_getElem? h, _root_.rfl⟩) q.1 (List.mem_map.mpr ⟨q, hq, _root_.rfl⟩) _root_.rfl
    · omega
  have hD1' := wD_mem.mp hD1
  constructor
  · refine wP_perm h2.symm (wP_mem.mpr fun q hq => ?_)
    rcases List.mem_append.mp hq with h | h
    · exact wP_mem.mp hP1 q h
    · obtain ⟨g1, g2⟩ := apart q h
      exact (hP' q (List.mem_append_right _ h)).kept (hk q.1 g1 g2)
  · refine wD_perm h2.symm (wD_mem.mpr ⟨?_, fun q hq => ?_⟩)
    · rw [List.map_append, List.nodup_append]
      refine ⟨hD1'.1, hn.2.1, fun x hx y hy e => ?_⟩
      obtain ⟨a, ha, rfl⟩ := List.mem_map.mp hx
      obtain ⟨b, hb, rfl⟩ := List.mem_map.mp hy
      exact (apart b hb).2 (by rw [← e]; exact hD1'.2 a ha)
    · rcases List.mem_append.mp hq with h | h
      · exact hF q.1 (hD1'.2 q h)
      · exact hD'.2 q (List.mem_append_right _ h)
section BC
variable {p : Program} {l : Launch} {e : Env} {R : Room} {s : State} {m : MethodId} {args : Array Value} {below : List Frame} {meth : Method} {c : Code} {H H0 : Heap} {locs : List Loc} {cells slots : Nat} {Q : State → Prop}
  {Ts wsy : List Cond} {cc bytes : ByteArray} {nL maxL index n mc ms pc : Nat} {own C : String} {y : MethodName} {ret : Option FieldType} {rm : Room} {b : Addr} {As rest st : List Value} {ls : Array Slot}
  {D : va_G} {T : Nat → ClassId} {ws wc ws1 wc1 : va_W} {A0 : Nat → Prop}
/-- the answer by another name -/
theorem endI {v r : Int32} (hv : v = r) (k : W p l e R s m args below meth c H locs cells slots Q (F0 m pc ls (.int r :: rest))) : W p l e R s m args below meth c H locs cells slots Q (F0 m pc ls (.int v :: rest)) := hv ▸ k
theorem rdV {r : Int32} {T' : u_T} {N' ci : Nat} {fs : List Value} (S : CallFix p m c cc nL s args Ts own) (hM : Met l y wsy rm (va_Pc (.ref b :: As) (PR D T wc)) (QcRead r) 0 0 (fun _ => False)) (cw : CallW R s args own C index y bytes maxL ret wsy rm 0 0 n) (hK : va_K D vwCl (tyL T) s) (hP : va_P D vwCl wc H)
    (q0 : Nat) (he : wc[q0]? = some (b, .inr (ci, fs))) (hc : vwCl[ci]? = some (C, T', N')) (hn : As.length = n) (hsize : ls.size = nL) (hst : st = As.reverse ++ .ref b :: rest) (hW : (rest.map fun v => v.category).sum ≤ 8) (hcs : cells + 0 ≤ R.cells ∧ slots + 0 ≤ R.slots) (hdg : decode cc pc = .ok (.invokevirtual index, 3))
    (kk : W p l e R s m args below meth c H locs cells slots Q (F0 m (pc + 3) ls (.int r :: rest))) : W p l e R s m args below meth c H locs cells slots Q (F0 m pc ls st) :=
  W.callR (W.runV S hM cw ⟨PR.blind _ _ _ _, va_recv hK hP hc he, fun U hU hW => ⟨rfl, by rw [hU]; exact hP, va_K.moved hW.alike hK⟩⟩ rfl hn hsize hst (lv_room hW) hdg hcs) kk
theorem rdS {r : Int32} (S : CallFix p m c cc nL s args Ts own) (hM : Met l y wsy rm (va_Pc As (PR D T wc)) (QcRead r) 0 0 (fun _ => False)) (cw : CallB R s args own index y bytes maxL ret wsy rm 0 0 n ∧ (Cond.static y).before args s = true) (hK : va_K D vwCl (tyL T) s) (hP : va_P D vwCl wc H)
    (hn : As.length = n) (hsize : ls.size = nL) (hst : st = As.reverse ++ rest) (hW : (rest.map fun v => v.category).sum ≤ 8) (hcs : cells + 0 ≤ R.cells ∧ slots + 0 ≤ R.slots) (hdg : decode cc pc = .ok (.invokestatic index, 3))
    (kk : W p l e R s m args below meth c H locs cells slots Q (F0 m (pc + 3) ls (.int r :: rest))) : W p l e R s m args below meth c H locs cells slots Q (F0 m pc ls st) :=
  W.callR (W.runS S hM cw ⟨PR.blind _ _ _ _, fun U hU hW => ⟨rfl, by rw [hU]; exact hP, va_K.moved hW.alike hK⟩⟩ rfl hn hsize hst (lv_room hW) hdg hcs) kk
/-- a static method that reads no cell -/
theorem rdT {r : Int32} (S : CallFix p m c cc nL s args Ts own) (hM : Met l y wsy rm (va_Pc As (fun _ => True)) (QcRead r) 0 0 (fun _ => False)) (cw : CallB R s args own index y bytes maxL ret wsy rm 0 0 n ∧ (Cond.static y).before args s = true)
    (hn : As.length = n) (hsize : ls.size = nL) (hst : st = As.reverse ++ rest) (hW : (rest.map fun v => v.category).sum ≤ 8) (hcs : cells + 0 ≤ R.cells ∧ slots + 0 ≤ R.slots) (hdg : decode cc pc = .ok (.invokestatic index, 3))
    (kk : W p l e R s m args below meth c H locs cells slots Q (F0 m (pc + 3) ls (.int r :: rest))) : W p l e R s m args below meth c H locs cells slots Q (F0 m pc ls st) :=
  W.callR (W.runS S hM cw ⟨PT.blind _, fun U hU hW => ⟨rfl, trivial⟩⟩ rfl hn hsize hst (lv_room hW) hdg hcs) kk
/-- an instance method that reads no cell -/
theorem rdU {r : Int32} {T' : u_T} {N' ci : Nat} {fs : List Value} (S : CallFix p m c cc nL s args Ts own) (hM : Met l y wsy rm (va_Pc (.ref b :: As) (fun _ => True)) (QcRead r) 0 0 (fun _ => False)) (cw : CallW R s args own C index y bytes maxL ret wsy rm 0 0 n) (hK : va_K D vwCl (tyL T) s) (hP : va_P D vwCl wc H)
    (q0 : Nat) (he : wc[q0]? = some (b, .inr (ci, fs))) (hc : vwCl[ci]? = some (C, T', N')) (hn : As.length = n) (hsize : ls.size = nL) (hst : st = As.reverse ++ .ref b :: rest) (hW : (rest.map fun v => v.category).sum ≤ 8) (hcs : cells + 0 ≤ R.cells ∧ slots + 0 ≤ R.slots) (hdg : decode cc pc = .ok (.invokevirtual index, 3))
    (kk : W p l e R s m args below meth c H locs cells slots Q (F0 m (pc + 3) ls (.int r :: rest))) : W p l e R s m args below meth c H locs cells slots Q (F0 m pc ls st) :=
  W.callR (W.runV S hM cw ⟨PT.blind _, va_recv hK hP hc he, fun U hU hW => ⟨rfl, trivial⟩⟩ rfl hn hsize hst (lv_room hW) hdg hcs) kk
theorem wrVi {r : Int32} {T' : u_T} {N' ci : Nat} {fs : List Value} (S : CallFix p m c cc nL s args Ts own) (hM : Met l y wsy rm (va_Pc (.ref b :: As) (PS D T wc H.size)) (va_Qi (fun r' (_ : Unit) => r' = r) (fun _ t => QS D T (va_A wc H.size) wc1 t) (va_A wc H.size)) mc ms (va_A wc H.size)) (cw : CallW R s args own C index y bytes maxL ret wsy rm mc ms n)
    (F : Foc ws wc ws1 wc1) (hK : va_K D vwCl (tyL T) s) (hP : va_P D vwCl ws H) (hD : va_D A0 ws) (hS : va_S A0 H0 H locs) (hA : ∀ q, H0.size ≤ q → A0 q)
    (q0 : Nat) (he : wc[q0]? = some (b, .inr (ci, fs))) (hc : vwCl[ci]? = some (C, T', N')) (hn : As.length = n) (hsize : ls.size = nL) (hst : st = As.reverse ++ .ref b :: rest) (hW : (rest.map fun v => v.category).sum ≤ 8) (hcs : cells + mc ≤ R.cells ∧ slots + ms ≤ R.slots) (hdg : decode cc pc = .ok (.invokevirtual index, 3))
    (kk : ∀ (H1 : Heap) (locs1 : List Loc), va_P D vwCl ws1 H1 → va_D A0 ws1 → va_S A0 H0 H1 locs1 → W p l e R s m args below meth c H1 locs1 (cells + mc) (slots + ms) Q (F0 m (pc + 3) ls (.int r :: rest))) : W p l e R s m args below meth c H locs cells slots Q (F0 m pc ls st) := by
  have hPc := F.subP hP
  have hDc := F.subD hD
  have hFc := F.free hD hS hA
  refine va_calli (va_runV S hM cw ⟨PS.blind _ _ _ _ _, va_recv hK hPc hc he, fun U hU hW => ⟨rfl, by rw [hU], by rw [hU]; exact hPc, va_K.moved hW.alike hK, hDc.weaken (fun _ _ _ _ => trivial)⟩⟩ rfl hn hsize hst (lv_room hW) hdg hcs) hS (fun q _ h => hFc q h) hFc (fun r1 u t H1 locs1 ht hvm hw hB hz1 hk1 hS1 => ?_)
  obtain ⟨hP1, hK1, hD1⟩ := hB
  rw [ht] at hP1
  obtain ⟨g1, g2⟩ := F.join hP hD hk1 hFc hP1 hD1
  subst hw
  exact kk H1 locs1 g1 g2 hS1
theorem wrVv {T' : u_T} {N' ci : Nat} {fs : List Value} (S : CallFix p m c cc nL s args Ts own) (hM : Met l y wsy rm (va_Pc (.ref b :: As) (PS D T wc H.size)) (va_Qv (fun (_ : Unit) => True) (fun _ t => QS D T (va_A wc H.size) wc1 t) (va_A wc H.size)) mc ms (va_A wc H.size)) (cw : CallW R s args own C index y bytes maxL ret wsy rm mc ms n)
    (F : Foc ws wc ws1 wc1) (hK : va_K D vwCl (tyL T) s) (hP : va_P D vwCl ws H) (hD : va_D A0 ws) (hS : va_S A0 H0 H locs) (hA : ∀ q, H0.size ≤ q → A0 q)
    (q0 : Nat) (he : wc[q0]? = some (b, .inr (ci, fs))) (hc : vwCl[ci]? = some (C, T', N')) (hn : As.length = n) (hsize : ls.size = nL) (hst : st = As.reverse ++ .ref b :: rest) (hW : (rest.map fun v => v.category).sum ≤ 8) (hcs : cells + mc ≤ R.cells ∧ slots + ms ≤ R.slots) (hdg : decode cc pc = .ok (.invokevirtual index, 3))
    (kk : ∀ (H1 : Heap) (locs1 : List Loc), va_P D vwCl ws1 H1 → va_D A0 ws1 → va_S A0 H0 H1 locs1 → W p l e R s m args below meth c H1 locs1 (cells + mc) (slots + ms) Q (F0 m (pc + 3) ls rest)) : W p l e R s m args below meth c H locs cells slots Q (F0 m pc ls st) := by
  have hPc := F.subP hP
  have hDc := F.subD hD
  have hFc := F.free hD hS hA
  refine va_callv (va_runV S hM cw ⟨PS.blind _ _ _ _ _, va_recv hK hPc hc he, fun U hU hW => ⟨rfl, by rw [hU], by rw [hU]; exact hPc, va_K.moved hW.alike hK, hDc.weaken (fun _ _ _ _ => trivial)⟩⟩ rfl hn hsize hst (lv_room hW) hdg hcs) hS (fun q _ h => hFc q h) hFc (fun u t H1 locs1 ht hvm hw hB hz1 hk1 hS1 => ?_)
  obtain ⟨hP1, hK1, hD1⟩ := hB
  rw [ht] at hP1
  obtain ⟨g1, g2⟩ := F.join hP hD hk1 hFc hP1 hD1
  exact kk H1 locs1 g1 g2 hS1
theorem wrSi {r : Int32} (S : CallFix p m c cc nL s args Ts own) (hM : Met l y wsy rm (va_Pc As (PS D T wc H.size)) (va_Qi (fun r' (_ : Unit) => r' = r) (fun _ t => QS D T (va_A wc H.size) wc1 t) (va_A wc H.size)) mc ms (va_A wc H.size)) (cw : CallB R s args own index y bytes maxL ret wsy rm mc ms n ∧ (Cond.static y).before args s = true)
    (F : Foc ws wc ws1 wc1) (hK : va_K D vwCl (tyL T) s) (hP : va_P D vwCl ws H) (hD : va_D A0 ws) (hS : va_S A0 H0 H locs) (hA : ∀ q, H0.size ≤ q → A0 q)
    (hn : As.length = n) (hsize : ls.size = nL) (hst : st = As.reverse ++ rest) (hW : (rest.map fun v => v.category).sum ≤ 8) (hcs : cells + mc ≤ R.cells ∧ slots + ms ≤ R.slots) (hdg : decode cc pc = .ok (.invokestatic index, 3))
    (kk : ∀ (H1 : Heap) (locs1 : List Loc), va_P D vwCl ws1 H1 → va_D A0 ws1 → va_S A0 H0 H1 locs1 → W p l e R s m args below meth c H1 locs1 (cells + mc) (slots + ms) Q (F0 m (pc + 3) ls (.int r :: rest))) : W p l e R s m args below meth c H locs cells slots Q (F0 m pc ls st) := by
  have hPc := F.subP hP
  have hDc := F.subD hD
  have hFc := F.free hD hS hA
  refine va_calli (va_runS S hM cw ⟨PS.blind _ _ _ _ _, fun U hU hW => ⟨rfl, by rw [hU], by rw [hU]; exact hPc, va_K.moved hW.alike hK, hDc.weaken (fun _ _ _ _ => trivial)⟩⟩ rfl hn hsize hst (lv_room hW) hdg hcs) hS (fun q _ h => hFc q h) hFc (fun r1 u t H1 locs1 ht hvm hw hB hz1 hk1 hS1 => ?_)
  obtain ⟨hP1, hK1, hD1⟩ := hB
  rw [ht] at hP1
  obtain ⟨g1, g2⟩ := F.join hP hD hk1 hFc hP1 hD1
  subst hw
  exact kk H1 locs1 g1 g2 hS1
theorem wrSv (S : CallFix p m c cc nL s args Ts own) (hM : Met l y wsy rm (va_Pc As (PS D T wc H.size)) (va_Qv (fun (_ : Unit) => True) (fun _ t => QS D T (va_A wc H.size) wc1 t) (va_A wc H.size)) mc ms (va_A wc H.size)) (cw : CallB R s args own index y bytes maxL ret wsy rm mc ms n ∧ (Cond.static y).before args s = true)
    (F : Foc ws wc ws1 wc1) (hK : va_K D vwCl (tyL T) s) (hP : va_P D vwCl ws H) (hD : va_D A0 ws) (hS : va_S A0 H0 H locs) (hA : ∀ q, H0.size ≤ q → A0 q)
    (hn : As.length = n) (hsize : ls.size = nL) (hst : st = As.reverse ++ rest) (hW : (rest.map fun v => v.category).sum ≤ 8) (hcs : cells + mc ≤ R.cells ∧ slots + ms ≤ R.slots) (hdg : decode cc pc = .ok (.invokestatic index, 3))
    (kk : ∀ (H1 : Heap) (locs1 : List Loc), va_P D vwCl ws1 H1 → va_D A0 ws1 → va_S A0 H0 H1 locs1 → W p l e R s m args below meth c H1 locs1 (cells + mc) (slots + ms) Q (F0 m (pc + 3) ls rest)) : W p l e R s m args below meth c H locs cells slots Q (F0 m pc ls st) := by
  have hPc := F.subP hP
  have hDc := F.subD hD
  have hFc := F.free hD hS hA
  refine va_callv (va_runS S hM cw ⟨PS.blind _ _ _ _ _, fun U hU hW => ⟨rfl, by rw [hU], by rw [hU]; exact hPc, va_K.moved hW.alike hK, hDc.weaken (fun _ _ _ _ => trivial)⟩⟩ rfl hn hsize hst (lv_room hW) hdg hcs) hS (fun q _ h => hFc q h) hFc (fun u t H1 locs1 ht hvm hw hB hz1 hk1 hS1 => ?_)
  obtain ⟨hP1, hK1, hD1⟩ := hB
  rw [ht] at hP1
  obtain ⟨g1, g2⟩ := F.join hP hD hk1 hFc hP1 hD1
  exact kk H1 locs1 g1 g2 hS1
/-- a place of an int row, its index a number -/
theorem aldI {tys : List (ClassId × FieldType)} {a : Nat} (hexec : p.tables.exec = Jvm.exec) (hb : c.code = cc) (hK : va_K D vwCl tys s) (hP : va_P D vwCl ws H) (q0 t0 : Nat) {cA : ClassId} {N : Nat} {f : Nat → Int32} (ha : ws[q0]? = some (a, .inl (cA, N, .inl f))) (ht : tys[t0]? = some (cA, .int)) (k : Nat) {i : Int32} (hi : i = nI k) (hk : k < N) (hN : N < 2 ^ 31) (hdg : decode cc pc = .ok (.iaload, 1))
    (kk : W p l e R s m args below meth c H locs cells slots Q (F0 m (pc + 1) ls (.int (f k) :: rest))) : W p l e R s m args below meth c H locs cells slots Q (F0 m pc ls (.int i :: .ref a :: rest)) := by
  subst hi
  have h1 : (nI k).toNatClampNeg = k := nI_clamp (by omega)
  refine va_iald hexec hb hK hP q0 t0 ha ht (nI_in hk hN) hdg ?_
  rw [h1]
  exact kk
theorem aldZ {tys : List (ClassId × FieldType)} {a : Nat} (hexec : p.tables.exec = Jvm.exec) (hb : c.code = cc) (hK : va_K D vwCl tys s) (hP : va_P D vwCl ws H) (q0 t0 : Nat) {cA : ClassId} {N : Nat} {f : Nat → Int32} (ha : ws[q0]? = some (a, .inl (cA, N, .inl f))) (ht : tys[t0]? = some (cA, .boolean)) (k : Nat) {i : Int32} (hi : i = nI k) (hk : k < N) (hN : N < 2 ^ 31) (hdg : decode cc pc = .ok (.baload, 1))
    (kk : W p l e R s m args below meth c H locs cells slots Q (F0 m (pc + 1) ls (.int (f k) :: rest))) : W p l e R s m args below meth c H locs cells slots Q (F0 m pc ls (.int i :: .ref a :: rest)) := by
  subst hi
  have h1 : (nI k).toNatClampNeg = k := nI_clamp (by omega)
  refine va_zald hexec hb hK hP q0 t0 ha ht (nI_in hk hN) hdg ?_
  rw [h1]
  exact kk
theorem astI {tys : List (ClassId × FieldType)} {a : Nat} (hexec : p.tables.exec = Jvm.exec) (hb : c.code = cc) (hK : va_K D vwCl tys s) (hP : va_P D vwCl ws H) (hD : va_D A0 ws) (hS : va_S A0 H0 H locs) (q0 t0 : Nat) {cA : ClassId} {N : Nat} {f : Nat → Int32} (ha : ws[q0]? = some (a, .inl (cA, N, .inl f))) (ht : tys[t0]? = some (cA, .int)) (k : Nat) {i x : Int32} (hi : i = nI k) (hk : k < N) (hN : N < 2 ^ 31) (hdg : decode cc pc = .ok (.iastore, 1))
    (kk : ∀ (H1 : Heap) (locs1 : List Loc), va_P D vwCl (ws.set q0 (a, .inl (cA, N, .inl (va_up f k x)))) H1 → va_D A0 (ws.set q0 (a, .inl (cA, N, .inl (va_up f k x)))) → va_S A0 H0 H1 locs1 → W p l e R s m args below meth c H1 locs1 cells slots Q (F0 m (pc + 1) ls rest)) : W p l e R s m args below meth c H locs cells slots Q (F0 m pc ls (.int x :: .int i :: .ref a :: rest)) := by
  subst hi
  have h1 : (nI k).toNatClampNeg = k := nI_clamp (by omega)
  refine va_iast hexec hb hK hP hD hS q0 t0 ha ht (nI_in hk hN) hdg ?_
  rw [h1]
  exact kk
theorem astZ {tys : List (ClassId × FieldType)} {a : Nat} (hexec : p.tables.exec = Jvm.exec) (hb : c.code = cc) (hK : va_K D vwCl tys s) (hP : va_P D vwCl ws H) (hD : va_D A0 ws) (hS : va_S A0 H0 H locs) (q0 t0 : Nat) {cA : ClassId} {N : Nat} {f : Nat → Int32} (ha : ws[q0]? = some (a, .inl (cA, N, .inl f))) (ht : tys[t0]? = some (cA, .boolean)) (k : Nat) {i x : Int32} (hi : i = nI k) (hx : vp_nar .boolean x = x) (hk : k < N) (hN : N < 2 ^ 31) (hdg : decode cc pc = .ok (.bastore, 1))
    (kk : ∀ (H1 : Heap) (locs1 : List Loc), va_P D vwCl (ws.set q0 (a, .inl (cA, N, .inl (va_up f k x)))) H1 → va_D A0 (ws.set q0 (a, .inl (cA, N, .inl (va_up f k x)))) → va_S A0 H0 H1 locs1 → W p l e R s m args below meth c H1 locs1 cells slots Q (F0 m (pc + 1) ls rest)) : W p l e R s m args below meth c H locs cells slots Q (F0 m pc ls (.int x :: .int i :: .ref a :: rest)) := by
  subst hi
  have h1 : (nI k).toNatClampNeg = k := nI_clamp (by omega)
  refine va_zast hexec hb hK hP hD hS q0 t0 ha ht (nI_in hk hN) hdg ?_
  rw [h1, hx]
  exact kk
end BC
/-! a contract out of a walk whose end is a hypothesis -/
section MT
variable {l : Launch} {y : MethodName} {ws ws' : List Cond} {rm : Room} {as : List Value} {D : va_G} {T : Nat → ClassId} {w w1 : va_W} {cc : ByteArray} {maxL : Nat} {ty : FieldType} {sz : Nat}
theorem metR {r : Int32} (hy : plainName y.cls = true) (hw : ws = Cond.code y cc maxL (some ty) :: ws') (hn : narrow ty (.int r) = .int r) (hlen : (lg_sl as).length ≤ maxL)
    (body : ∀ (p : Program) (e : Env) (s : State) (m : MethodId) (args : Array Value) (below : List Frame) (meth : Method) (c : Code) (Q : State → Prop) (ls : Array Slot), p.tables.exec = Jvm.exec → c.code = cc → c.maxLocals = maxL → s.vm.findClass y.cls = some m.cls → (∀ q ∈ ws, q.before args s = true) → va_P D vwCl w s.heap → va_K D vwCl (tyL T) s → lv_has ls maxL (lv_args 0 as) →
      (∀ (ls : Array Slot) (pc : Nat), decode cc pc = .ok (.ireturn, 1) → W p l e rm s m args below meth c s.heap [] 0 0 Q (F0 m pc ls [.int r])) →
      W p l e rm s m args below meth c s.heap [] 0 0 Q (F0 m 0 ls [])) : Met l y ws rm (va_Pc as (PR D T w)) (QcRead r) 0 0 (fun _ => False) := by
  refine Met.ofW (cc := cc) (maxL := maxL) (ret := some ty) hy hw ?_
  intro p e s m args below meth c s₁ B hml hv
  obtain ⟨rfl, hP, hK⟩ := hv
  have hts := atoms_spec (ws := ws) B.pre
  have hown : s.vm.findClass y.cls = some m.cls := findClass_of_methodNamed B.named
  have hlocks := B.notSynchronized
  have hl := lv_entry as (n := maxL) hlen
  rw [lg_entry_eq]
  refine body p e s m _ below meth c _ _ B.exec B.bytes hml hown hts hP hK hl (fun ls pc hd => ?_)
  exact W.zret B.exec B.bytes B.returns hn (fun t ht hW => ⟨rfl, ht⟩) (fun q hq => by cases hq) hd
theorem metT {r : Int32} (hy : plainName y.cls = true) (hw : ws = Cond.code y cc maxL (some ty) :: ws') (hn : narrow ty (.int r) = .int r) (hlen : (lg_sl as).length ≤ maxL)
    (body : ∀ (p : Program) (e : Env) (s : State) (m : MethodId) (args : Array Value) (below : List Frame) (meth : Method) (c : Code) (Q : State → Prop) (ls : Array Slot), p.tables.exec = Jvm.exec → c.code = cc → c.maxLocals = maxL → s.vm.findClass y.cls = some m.cls → (∀ q ∈ ws, q.before args s = true) → lv_has ls maxL (lv_args 0 as) →
      (∀ (ls : Array Slot) (pc : Nat), decode cc pc = .ok (.ireturn, 1) → W p l e rm s m args below meth c s.heap [] 0 0 Q (F0 m pc ls [.int r])) →
      W p l e rm s m args below meth c s.heap [] 0 0 Q (F0 m 0 ls [])) : Met l y ws rm (va_Pc as (fun _ => True)) (QcRead r) 0 0 (fun _ => False) := by
  refine Met.ofW (cc := cc) (maxL := maxL) (ret := some ty) hy hw ?_
  intro p e s m args below meth c s₁ B hml hv
  obtain ⟨rfl, -⟩ := hv
  have hts := atoms_spec (ws := ws) B.pre
  have hown : s.vm.findClass y.cls = some m.cls := findClass_of_methodNamed B.named
  have hlocks := B.notSynchronized
  have hl := lv_entry as (n := maxL) hlen
  rw [lg_entry_eq]
  refine body p e s m _ below meth c _ _ B.exec B.bytes hml hown hts hl (fun ls pc hd => ?_)
  exact W.zret B.exec B.bytes B.returns hn (fun t ht hW => ⟨rfl, ht⟩) (fun q hq => by cases hq) hd
theorem metSi {r : Int32} {mc ms : Nat} (hy : plainName y.cls = true) (hw : ws = Cond.code y cc maxL (some ty) :: ws') (hn : narrow ty (.int r) = .int r) (hlen : (lg_sl as).length ≤ maxL)
    (body : ∀ (p : Program) (e : Env) (s : State) (m : MethodId) (args : Array Value) (below : List Frame) (meth : Method) (c : Code) (Q : State → Prop) (ls : Array Slot) (A : Nat → Prop), p.tables.exec = Jvm.exec → c.code = cc → c.maxLocals = maxL → s.vm.findClass y.cls = some m.cls → (∀ q ∈ ws, q.before args s = true) → va_P D vwCl w s.heap → va_K D vwCl (tyL T) s → va_D A w → (∀ q : Nat, s.heap.size ≤ q → A q) → va_S A s.heap s.heap [] → lv_has ls maxL (lv_args 0 as) →
      (∀ (H : Heap) (locs : List Loc) (ls : Array Slot) (pc : Nat), decode cc pc = .ok (.ireturn, 1) → va_P D vwCl w1 H → va_D A w1 → va_S A s.heap H locs → W p l e rm s m args below meth c H locs mc ms Q (F0 m pc ls [.int r])) →
      W p l e rm s m args below meth c s.heap [] 0 0 Q (F0 m 0 ls [])) : Met l y ws rm (va_Pc as (PS D T w sz)) (va_Qi (fun r' (_ : Unit) => r' = r) (fun _ t => QS D T (va_A w sz) w1 t) (va_A w sz)) mc ms (va_A w sz) := by
  refine Met.ofW (cc := cc) (maxL := maxL) (ret := some ty) hy hw ?_
  intro p e s m args below meth c s₁ B hml hv
  obtain ⟨rfl, hsz, hP, hK, hD0⟩ := hv
  subst hsz
  have hts := atoms_spec (ws := ws) B.pre
  have hown : s.vm.findClass y.cls = some m.cls := findClass_of_methodNamed B.named
  have hlocks := B.notSynchronized
  have hl := lv_entry as (n := maxL) hlen
  rw [lg_entry_eq]
  refine body p e s m _ below meth c _ _ (va_A w s.heap.size) B.exec B.bytes hml hown hts hP hK (hD0.self (sz := s.heap.size)) (fun q h => Or.inr h) va_S.rf hl (fun H locs ls pc hd hP1 hD1 hS => ?_)
  exact W.zret B.exec B.bytes B.returns hn (fun t ht hW => ⟨⟨r, (), rfl, rfl, by rw [ht]; exact hP1, va_K.moved hW.alike hK, hD1⟩, hS.F ht⟩) hS.2.2 hd
theorem metSv {mc ms : Nat} (hy : plainName y.cls = true) (hw : ws = Cond.code y cc maxL none :: ws') (hlen : (lg_sl as).length ≤ maxL)
    (body : ∀ (p : Program) (e : Env) (s : State) (m : MethodId) (args : Array Value) (below : List Frame) (meth : Method) (c : Code) (Q : State → Prop) (ls : Array Slot) (A : Nat → Prop), p.tables.exec = Jvm.exec → c.code = cc → c.maxLocals = maxL → s.vm.findClass y.cls = some m.cls → (∀ q ∈ ws, q.before args s = true) → va_P D vwCl w s.heap → va_K D vwCl (tyL T) s → va_D A w → (∀ q : Nat, s.heap.size ≤ q → A q) → va_S A s.heap s.heap [] → lv_has ls maxL (lv_args 0 as) →
      (∀ (H : Heap) (locs : List Loc) (ls : Array Slot) (pc : Nat), decode cc pc = .ok (.return_, 1) → va_P D vwCl w1 H → va_D A w1 → va_S A s.heap H locs → W p l e rm s m args below meth c H locs mc ms Q (F0 m pc ls [])) →
      W p l e rm s m args below meth c s.heap [] 0 0 Q (F0 m 0 ls [])) : Met l y ws rm (va_Pc as (PS D T w sz)) (va_Qv (fun (_ : Unit) => True) (fun _ t => QS D T (va_A w sz) w1 t) (va_A w sz)) mc ms (va_A w sz) := by
  refine Met.ofW (cc := cc) (maxL := maxL) (ret := none) hy hw ?_
  intro p e s m args below meth c s₁ B hml hv
  obtain ⟨rfl, hsz, hP, hK, hD0⟩ := hv
  subst hsz
  have hts := atoms_spec (ws := ws) B.pre
  have hown : s.vm.findClass y.cls = some m.cls := findClass_of_methodNamed B.named
  have hlocks := B.notSynchronized
  have hl := lv_entry as (n := maxL) hlen
  rw [lg_entry_eq]
  refine body p e s m _ below meth c _ _ (va_A w s.heap.size) B.exec B.bytes hml hown hts hP hK (hD0.self (sz := s.heap.size)) (fun q h => Or.inr h) va_S.rf hl (fun H locs ls pc hd hP1 hD1 hS => ?_)
  exact W.vret B.exec B.bytes B.returns (fun t ht hW => ⟨⟨(), rfl, trivial, by rw [ht]; exact hP1, va_K.moved hW.alike hK, hD1⟩, hS.F ht⟩) hS.2.2 hd
end MT
/-! a row copied whole -/
theorem wP_eqv {D : va_G} {cl : List vw_C} {ws : va_W} {H : Heap} {q1 a N : Nat} {c1 : ClassId} {f g : Nat → Int32} (h : ∀ k, k < N → g k = f k) (hP : va_P D cl (ws.set q1 (a, .inl (c1, N, .inl g))) H) : va_P D cl (ws.set q1 (a, .inl (c1, N, .inl f))) H := by
  intro k q hk
  rw [List.getElem?_set] at hk
  by_cases e : q1 = k
  · subst e
    rw [if_pos rfl] at hk
    by_cases e2 : q1 < ws.length
    · rw [if_pos e2] at hk
      obtain rfl := Option.some.inj hk
      have h1 := hP q1 (a, .inl (c1, N, .inl g)) (by rw [List.getElem?_set, if_pos rfl, if_pos e2])
      have e3 : vp_cell c1 (N, .inl g) = vp_cell c1 (N, .inl f) := by
        rw [vp_cell_i, vp_cell_i]
        simp only [arrV]
        congr 1
        congr 1
        funext j
        rw [h j.val j.isLt]
      show H[a]? = some (vp_cell c1 (N, .inl f))
      rw [← e3]
      exact h1
    · rw [if_neg e2] at hk; cases hk
  · rw [if_neg e] at hk
    exact hP k q (by rw [List.getElem?_set, if_neg e]; exact hk)
theorem wD_eqv {A : Nat → Prop} {ws : va_W} {q1 a : Nat} {e1 e2 : va_E} (hD : va_D A (ws.set q1 (a, e1))) : va_D A (ws.set q1 (a, e2)) := by
  rw [wD_mem] at hD ⊢
  have e : (ws.set q1 (a, e1)).map Prod.fst = (ws.set q1 (a, e2)).map Prod.fst := by rw [List.map_set, List.map_set]
  refine ⟨by rw [← e]; exact hD.1, fun q hq => ?_⟩
  have h : q.1 ∈ (ws.set q1 (a, e1)).map Prod.fst := by rw [e]; exact List.mem_map.mpr ⟨q, hq, rfl⟩
  obtain ⟨z, hz, hz2⟩ := List.mem_map.mp h
  rw [← hz2]
  exact hD.2 z hz
section CP
variable {p : Program} {l : Launch} {e : Env} {R : Room} {s : State} {m : MethodId} {args : Array Value} {below : List Frame} {meth : Method} {c : Code} {H H0 : Heap} {locs : List Loc} {cells slots : Nat} {Q : State → Prop}
  {pc : Nat} {ls : Array Slot} {rest : List Value} {D : va_G} {ws : va_W} {A0 : Nat → Prop} {tys : List (ClassId × FieldType)}
theorem cpyI {cc : ByteArray} (hexec : p.tables.exec = Jvm.exec) (hb : c.code = cc) (hml : c.maxLocals = ls.size) {own : String} {index : Nat} (hown : s.vm.findClass own = some m.cls) (hlink : (Cond.methodLink own index arraycopyName).before args s = true) (hnat : (Cond.native arraycopyName).before args s = true) (hstat : (Cond.static arraycopyName).before args s = true) (hini : (Cond.initialized "java/lang/System").before args s = true)
    (hK : va_K D vwCl tys s) (hP : va_P D vwCl ws H) (hD : va_D A0 ws) (hS : va_S A0 H0 H locs) (q0 q1 t0 : Nat) {a0 a N : Nat} {c0 : ClassId} {f g : Nat → Int32} (ha0 : ws[q0]? = some (a0, .inl (c0, N, .inl f))) (ha1 : ws[q1]? = some (a, .inl (c0, N, .inl g))) (ht0 : tys[t0]? = some (c0, .int))
    {n : Int32} (hn : n = nI N) (hN : N < 2 ^ 31) (hframes : 1 ≤ R.frames) (hlocals : (rest.map fun v => v.category).sum + (nativeFrameWords "java/lang/System" "arraycopy" 5 + 11) ≤ R.locals) (hdg : decode cc pc = .ok (.invokestatic index, 3))
    (kk : ∀ (H1 : Heap) (locs1 : List Loc), va_P D vwCl (ws.set q1 (a, .inl (c0, N, .inl f))) H1 → va_D A0 (ws.set q1 (a, .inl (c0, N, .inl f))) → va_S A0 H0 H1 locs1 → W p l e R s m args below meth c H1 locs1 cells slots Q (F0 m (pc + 3) ls rest)) : W p l e R s m args below meth c H locs cells slots Q (F0 m pc ls (.int n :: .int 0 :: .ref a :: .int 0 :: .ref a0 :: rest)) := by
  subst hn
  have h1 : (nI N).toNatClampNeg = N := nI_clamp hN
  have h0 : (0 : Int32).toNatClampNeg = 0 := by decide
  refine va_copyi hexec hb hml hown hlink hnat hstat hini hK hP hD hS q0 q1 t0 t0 ha0 ha1 ht0 ht0 rfl (by decide) (by decide) (nI_pos hN) (by rw [h1, h0]; omega) (by rw [h1, h0]; omega) (fun i _ => rfl) hframes hlocals hdg (fun H1 locs1 hP1 hD1 hS1 => ?_)
  rw [h1, h0] at hP1 hD1
  exact kk H1 locs1 (wP_eqv (fun k hk => by simp only [va_cpy]; rw [if_pos ⟨Nat.zero_le _, by omega⟩]; congr 1; omega) hP1) (wD_eqv hD1) hS1
end CP
