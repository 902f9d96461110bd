/-! StringBuilder: the text given out -/
theorem fit_arr {T : Nat → ClassId} {n0 : Nat} {a0 : Nat → Int32} (hf : sb_Fit a0) : ∀ (i : Nat) (v : Value), (vp_cell (T 3) (n0, .inl a0)).slots[i]? = some v → fits .byte v = true := by
  intro i v h
  have h : (arrV (T 3) n0 (fun j => .int (a0 j))).slots[i]? = some v := h
  by_cases hi : i < n0
  · rw [arrV_read _ _ hi] at h
    obtain rfl := Option.some.inj h
    exact hf i
  · rw [Array.getElem?_eq_none (by rw [arrV_size]; omega)] at h
    cases h
section JMK
variable {l : Launch} {y : MethodName} {ws ws' : List Cond} {rm : Room} {as : List Value} {D : va_G} {T : Nat → ClassId} {w : va_W} {cc : ByteArray} {maxL : Nat} {sz mc ms : Nat} {x : JV} {S : Type} {wu : S → va_W}
theorem metJk {px : S → Prop} (hy : plainName y.cls = true) (hw : ws = Cond.code y cc maxL none :: ws') (hnm : y.name = "<init>") (hlen : (lg_sl as).length ≤ maxL)
    (body : ∀ (p : Program) (e : Env) (s : State) (m : MethodId) (args : Array Value) (below : List Frame) (meth : Method) (c : Code) (Q : State → Prop) (ls : Array Slot) (A : Nat → Prop), p.tables.exec = Jvm.exec → c.code = cc → c.maxLocals = maxL → s.vm.findClass y.cls = some m.cls → (∀ q ∈ ws, q.before args s = true) → JX x A s s.heap → va_P D vwCl w s.heap → va_K D vwCl (tyL T) s → va_D A w → (∀ q : Nat, s.heap.size ≤ q → A q) → va_S A s.heap s.heap [] → lv_has ls maxL (lv_args 0 as) → meth.name = "<init>" →
      (∀ (H : Heap) (locs : List Loc) (ls : Array Slot) (pc k n : Nat) (u : S), decode cc pc = .ok (.return_, 1) → px u → va_P D vwCl (wu u) H → va_D A (wu u) → va_S A s.heap H locs → k ≤ mc → n ≤ ms → W p l e rm s m args below meth c H locs k n Q (F0 m pc ls [])) →
      W p l e rm s m args below meth c s.heap [] 0 0 Q (F0 m 0 ls [])) : Met l y ws rm (va_Pc as (JP D T x w sz)) (va_Qv px (fun u t => QS D T (va_A w sz) (wu u) t) (va_A w sz)) mc ms (va_A w sz) := by
  refine Met.ofW (cc := cc) (maxL := maxL) (ret := none) hy hw ?_
  intro p e s m args below meth c s₁ B hml hv
  obtain ⟨rfl, ⟨hsz, hP, hK, hD0⟩, hX⟩ := hv
  subst hsz
  have hts := atoms_spec (ws := ws) B.pre
  have hown : s.vm.findClass y.cls = some m.cls := findClass_of_methodNamed B.named
  have hlocks := B.notSynchronized
  have hin : meth.name = "<init>" := (name_of_methodNamed B.named B.method).1.trans hnm
  have hl := lv_entry as (n := maxL) hlen
  rw [lg_entry_eq]
  refine body p e s m _ below meth c _ _ (va_A w s.heap.size) B.exec B.bytes hml hown hts hX hP hK (hD0.self (sz := s.heap.size)) (fun q h => Or.inr h) va_S.rf hl hin (fun H locs ls pc k n u hd hpx hP1 hD1 hS hk1 hn1 => ?_)
  refine W.widen (k := mc) (n := ms) hk1 hn1 ?_
  exact W.vret B.exec B.bytes B.returns (fun t ht hW => ⟨⟨u, rfl, hpx, by rw [ht]; exact hP1, va_K.moved hW.alike hK, hD1⟩, hS.F ht⟩) hS.2.2 hd
end JMK

theorem mwj74_0 : Cond.sameMethod RJ5 RJ5 "length" "()I" ∈ lw_tbl := tb_t6 _ (List.mem_of_getElem? (i := 2) rfl)
theorem mwj74_1 : Cond.selects RJ4 ⟨RJ5, "getValue", "()[B"⟩ yJ5_getValue_6d5f1 ∈ lw_tbl := tb_t5 _ (List.mem_of_getElem? (i := 238) rfl)
theorem mwj74_2 : Cond.sameMethod RJ5 RJ5 "getValue" "()[B" ∈ lw_tbl := tb_t5 _ (List.mem_of_getElem? (i := 237) rfl)
theorem mwj74_3 : Cond.methodLink RJ0 552 ⟨RJ5, "getValue", "()[B"⟩ ∈ lw_tbl := tb_t5 _ (List.mem_of_getElem? (i := 235) rfl)
theorem mwj74_4 : Cond.selects RJ4 ⟨RJ5, "length", "()I"⟩ yJ4_length_8abf5 ∈ lw_tbl := tb_t6 _ (List.mem_of_getElem? (i := 3) rfl)
theorem mwj74_5 : Cond.instanceMethod ⟨RJ5, "length", "()I"⟩ ∈ lw_tbl := tb_t6 _ (List.mem_of_getElem? (i := 1) rfl)
theorem mwj74_6 : Cond.methodLink RJ0 549 ⟨RJ5, "length", "()I"⟩ ∈ lw_tbl := tb_t6 _ (List.mem_of_getElem? (i := 0) rfl)
theorem mwj74_7 : Cond.selects RJ4 ⟨RJ5, "isLatin1", "()Z"⟩ yJ5_isLatin1_aae02 ∈ lw_tbl := tb_t5 _ (List.mem_of_getElem? (i := 110) rfl)
theorem mwj74_8 : Cond.sameMethod RJ5 RJ5 "isLatin1" "()Z" ∈ lw_tbl := tb_t5 _ (List.mem_of_getElem? (i := 109) rfl)
theorem mwj74_9 : Cond.methodLink RJ0 1047 ⟨RJ5, "isLatin1", "()Z"⟩ ∈ lw_tbl := tb_t6 _ (List.mem_of_getElem? (i := 8) rfl)
theorem gj74SU_RJ4_343_J5_length_8abf5 : GoodIn gJ (va_wsSU RJ4 343 yJ5_length_8abf5 vtJ5_length_8abf5) := show GoodIn gJ ([Cond.methodLink RJ4 343 yJ5_length_8abf5, Cond.sameMethod RJ5 RJ5 "length" "()I", Cond.superclass RJ4 RJ5, Cond.instanceMethod yJ5_length_8abf5, Cond.initialized RJ5] ++ vtJ5_length_8abf5) from goodIn_app (gconJ (gJ_of mw_622 rfl) rfl (gconJ (gJ_of mwj74_0 rfl) rfl (gconJ (gJ_of mw_567 rfl) rfl (gconJ (gJ_of mw_623 rfl) rfl (gconJ (gJ_of mw_471 rfl) rfl (gnilJ)))))) gw_vtJ5_length_8abf5
theorem gj74S_RJ7_343_J7_checkLength_df160 : GoodIn gJ (va_wsS RJ7 343 yJ7_checkLength_df160 vtJ7_checkLength_df160) := show GoodIn gJ ([Cond.methodLink RJ7 343 yJ7_checkLength_df160, Cond.static yJ7_checkLength_df160, Cond.initialized RJ7] ++ vtJ7_checkLength_df160) from goodIn_app (gconJ (gJ_of mw_602 rfl) rfl (gconJ (gJ_of mw_603 rfl) rfl (gconJ (gJ_of mw_486 rfl) rfl (gnilJ)))) gw_vtJ7_checkLength_df160
theorem gj74S_RJ7_339_J7_copyOfRangeByte_39247 : GoodIn gJ (va_wsS RJ7 339 yJ7_copyOfRangeByte_39247 vtJ7_copyOfRangeByte_39247) := show GoodIn gJ ([Cond.methodLink RJ7 339 yJ7_copyOfRangeByte_39247, Cond.static yJ7_copyOfRangeByte_39247, Cond.initialized RJ7] ++ vtJ7_copyOfRangeByte_39247) from goodIn_app (gconJ (gJ_of mw_600 rfl) rfl (gconJ (gJ_of mw_601 rfl) rfl (gconJ (gJ_of mw_486 rfl) rfl (gnilJ)))) gw_vtJ7_copyOfRangeByte_39247
theorem gj74U_RJ0_552_J5_getValue_6d5f1 : GoodIn gJ (va_wsU RJ0 552 RJ4 RJ5 ⟨RJ5, "getValue", "()[B"⟩ yJ5_getValue_6d5f1 vtJ5_getValue_6d5f1) := show GoodIn gJ ([Cond.methodLink RJ0 552 ⟨RJ5, "getValue", "()[B"⟩, Cond.sameMethod RJ5 RJ5 "getValue" "()[B", Cond.selects RJ4 ⟨RJ5, "getValue", "()[B"⟩ yJ5_getValue_6d5f1, Cond.instanceMethod yJ5_getValue_6d5f1, Cond.initialized RJ5] ++ vtJ5_getValue_6d5f1) from goodIn_app (gconJ (gJ_of mwj74_3 rfl) rfl (gconJ (gJ_of mwj74_2 rfl) rfl (gconJ (gJ_of mwj74_1 rfl) rfl (gconJ (gJ_of mw_616 rfl) rfl (gconJ (gJ_of mw_471 rfl) rfl (gnilJ)))))) gw_vtJ5_getValue_6d5f1
theorem gj74O_RJ0_549_J4_length_8abf5 : GoodIn gJ (va_wsO RJ0 549 RJ4 RJ5 ⟨RJ5, "length", "()I"⟩ yJ4_length_8abf5 vtJ4_length_8abf5) := show GoodIn gJ ([Cond.methodLink RJ0 549 ⟨RJ5, "length", "()I"⟩, Cond.sameMethod RJ5 RJ5 "length" "()I", Cond.instanceMethod ⟨RJ5, "length", "()I"⟩, Cond.selects RJ4 ⟨RJ5, "length", "()I"⟩ yJ4_length_8abf5, Cond.instanceMethod yJ4_length_8abf5, Cond.initialized RJ4] ++ vtJ4_length_8abf5) from goodIn_app (gconJ (gJ_of mwj74_6 rfl) rfl (gconJ (gJ_of mwj74_0 rfl) rfl (gconJ (gJ_of mwj74_5 rfl) rfl (gconJ (gJ_of mwj74_4 rfl) rfl (gconJ (gJ_of mw_621 rfl) rfl (gconJ (gJ_of mw_572 rfl) rfl (gnilJ))))))) gw_vtJ4_length_8abf5
theorem gj74U_RJ0_1047_J5_isLatin1_aae02 : GoodIn gJ (va_wsU RJ0 1047 RJ4 RJ5 ⟨RJ5, "isLatin1", "()Z"⟩ yJ5_isLatin1_aae02 vtJ5_isLatin1_aae02) := show GoodIn gJ ([Cond.methodLink RJ0 1047 ⟨RJ5, "isLatin1", "()Z"⟩, Cond.sameMethod RJ5 RJ5 "isLatin1" "()Z", Cond.selects RJ4 ⟨RJ5, "isLatin1", "()Z"⟩ yJ5_isLatin1_aae02, Cond.instanceMethod yJ5_isLatin1_aae02, Cond.initialized RJ5] ++ vtJ5_isLatin1_aae02) from goodIn_app (gconJ (gJ_of mwj74_9 rfl) rfl (gconJ (gJ_of mwj74_8 rfl) rfl (gconJ (gJ_of mwj74_7 rfl) rfl (gconJ (gJ_of mw_505 rfl) rfl (gconJ (gJ_of mw_471 rfl) rfl (gnilJ)))))) gw_vtJ5_isLatin1_aae02
theorem gj74S_RJ0_54_J7_copyOfRange_39247 : GoodIn gJ (va_wsS RJ0 54 yJ7_copyOfRange_39247 vtJ7_copyOfRange_39247) := show GoodIn gJ ([Cond.methodLink RJ0 54 yJ7_copyOfRange_39247, Cond.static yJ7_copyOfRange_39247, Cond.initialized RJ7] ++ vtJ7_copyOfRange_39247) from goodIn_app (gconJ (gJ_of mw_625 rfl) rfl (gconJ (gJ_of mw_610 rfl) rfl (gconJ (gJ_of mw_486 rfl) rfl (gnilJ)))) gw_vtJ7_copyOfRange_39247
set_option maxHeartbeats 4000000 in
set_option maxRecDepth 100000 in
theorem c_J5_getValue_6d5f1 (l : Launch) (D : va_G) (T : Nat → ClassId) (x : JV) (b0 q0 cm n0 : Nat) (a0 : Nat → Int32) (sz : Nat) : Met l yJ5_getValue_6d5f1 vtJ5_getValue_6d5f1 ({ frames := 0, cells := 0, slots := 0, locals := 0 } : Room) (va_Pc [.ref (b0)] (JP D T x ([(b0, .inr (11, [.ref q0, .int 0, .int 0, .int (nI n0)])), (q0, .inl (T 3, cm, .inl a0))]) sz)) (va_Qr (fun (u : Unit) => True) (fun u b9 t => b9 = (fun (u : Unit) => q0) u ∧ QS D T (va_A ([(b0, .inr (11, [.ref q0, .int 0, .int 0, .int (nI n0)])), (q0, .inl (T 3, cm, .inl a0))]) sz) ([(b0, .inr (11, [.ref q0, .int 0, .int 0, .int (nI n0)])), (q0, .inl (T 3, cm, .inl a0))] : va_W) t) (va_A ([(b0, .inr (11, [.ref q0, .int 0, .int 0, .int (nI n0)])), (q0, .inl (T 3, cm, .inl a0))]) sz)) 0 0 (va_A ([(b0, .inr (11, [.ref q0, .int 0, .int 0, .int (nI n0)])), (q0, .inl (T 3, cm, .inl a0))]) sz) := by
  refine metJr (ty := (.array .byte)) (wu := fun (u : Unit) => ([(b0, .inr (11, [.ref q0, .int 0, .int 0, .int (nI n0)])), (q0, .inl (T 3, cm, .inl a0))] : va_W)) (ru := fun (u : Unit) => q0) (cc := cJ5_getValue_6d5f1) (maxL := 1) (by decide) rfl (Or.inr ⟨_, rfl⟩) (Nat.le_of_ble_eq_true rfl) ?_
  intro p e s m args below meth c Q ls A hx hb hml hown hts hX hP hK hD hA hS hl hret
  have hown : s.vm.findClass RJ5 = some m.cls := hown
  have hl : lv_has ls 1 [(0, .ref (b0))] := hl
  have iRJ4 : ∀ w ∈ wsJ40, w ∈ vtJ5_getValue_6d5f1 := fun w hw => List.mem_cons_of_mem _ ((g_RJ4 w hw).1)
  have kmw_466 := hts (Cond.fieldLink RJ5 15 "java/lang/AbstractStringBuilder" "value" "[B") (List.mem_cons_of_mem _ (gJ_of mw_466 rfl))
  have hgo : ∀ (H : Heap) (locs : List Loc), va_P D vwCl ([(b0, .inr (11, [.ref q0, .int 0, .int 0, .int (nI n0)])), (q0, .inl (T 3, cm, .inl a0))]) H → va_S A s.heap H locs → W p l e ({ frames := 0, cells := 0, slots := 0, locals := 0 } : Room) s m args below meth c H locs (0) (0) Q (F0 m 0 ls []) := by
    intro H locs hP hS
    refine lv_aload_n hx hb dJ5_getValue_6d5f1_0 rfl (lv_at hl 0 rfl) ?_
    refine va_get (D := D) (ci := 11) (v := .ref q0) (C := RJ4) (T := TJ4) (N := 4) hx hb hts iRJ4 hown hK hP 0 rfl rfl 0 (by decide) kmw_466 (fun _ h9 => h9) rfl dJ5_getValue_6d5f1_1 ?_
    exact hret _ _ _ _ _ _ () dJ5_getValue_6d5f1_4 (trivial) hP hD hS (by omega) (by omega)
  exact hgo _ _ hP hS

set_option maxHeartbeats 4000000 in
set_option maxRecDepth 100000 in
theorem c_J5_length_8abf5 (l : Launch) (D : va_G) (T : Nat → ClassId) (x : JV) (b0 q0 cm n0 : Nat) (a0 : Nat → Int32) (sz : Nat) : Met l yJ5_length_8abf5 vtJ5_length_8abf5 ({ frames := 0, cells := 0, slots := 0, locals := 0 } : Room) (va_Pc [.ref (b0)] (JP D T x ([(b0, .inr (11, [.ref q0, .int 0, .int 0, .int (nI n0)])), (q0, .inl (T 3, cm, .inl a0))]) sz)) (va_Qi (fun r9 (u : Unit) => r9 = nI n0) (fun u t => QS D T (va_A ([(b0, .inr (11, [.ref q0, .int 0, .int 0, .int (nI n0)])), (q0, .inl (T 3, cm, .inl a0))]) sz) ([(b0, .inr (11, [.ref q0, .int 0, .int 0, .int (nI n0)])), (q0, .inl (T 3, cm, .inl a0))] : va_W) t) (va_A ([(b0, .inr (11, [.ref q0, .int 0, .int 0, .int (nI n0)])), (q0, .inl (T 3, cm, .inl a0))]) sz)) 0 0 (va_A ([(b0, .inr (11, [.ref q0, .int 0, .int 0, .int (nI n0)])), (q0, .inl (T 3, cm, .inl a0))]) sz) := by
  refine metJi (ty := .int) (wu := fun (u : Unit) => ([(b0, .inr (11, [.ref q0, .int 0, .int 0, .int (nI n0)])), (q0, .inl (T 3, cm, .inl a0))] : va_W)) (cc := cJ5_length_8abf5) (maxL := 1) (by decide) rfl (fun _ _ _ => rfl) (Nat.le_of_ble_eq_true rfl) ?_
  intro p e s m args below meth c Q ls A hx hb hml hown hts hX hP hK hD hA hS hl hret
  have hown : s.vm.findClass RJ5 = some m.cls := hown
  have hl : lv_has ls 1 [(0, .ref (b0))] := hl
  have iRJ4 : ∀ w ∈ wsJ40, w ∈ vtJ5_length_8abf5 := fun w hw => List.mem_cons_of_mem _ ((g_RJ4 w hw).1)
  have kmw_498 := hts (Cond.fieldLink RJ5 79 "java/lang/AbstractStringBuilder" "count" "I") (List.mem_cons_of_mem _ (gJ_of mw_498 rfl))
  have hgo : ∀ (H : Heap) (locs : List Loc), va_P D vwCl ([(b0, .inr (11, [.ref q0, .int 0, .int 0, .int (nI n0)])), (q0, .inl (T 3, cm, .inl a0))]) H → va_S A s.heap H locs → W p l e ({ frames := 0, cells := 0, slots := 0, locals := 0 } : Room) s m args below meth c H locs (0) (0) Q (F0 m 0 ls []) := by
    intro H locs hP hS
    refine lv_aload_n hx hb dJ5_length_8abf5_0 rfl (lv_at hl 0 rfl) ?_
    refine va_get (D := D) (ci := 11) (v := .int (nI n0)) (C := RJ4) (T := TJ4) (N := 4) hx hb hts iRJ4 hown hK hP 0 rfl rfl 3 (by decide) kmw_498 (fun _ h9 => h9) rfl dJ5_length_8abf5_1 ?_
    exact hret _ _ _ _ _ _ (nI n0) () dJ5_length_8abf5_4 (rfl) hP hD hS (by omega) (by omega)
  exact hgo _ _ hP hS

set_option maxHeartbeats 4000000 in
set_option maxRecDepth 100000 in
theorem c_J4_length_8abf5 (l : Launch) (D : va_G) (T : Nat → ClassId) (x : JV) (b0 q0 cm n0 : Nat) (a0 : Nat → Int32) (sz : Nat) : Met l yJ4_length_8abf5 vtJ4_length_8abf5 ({ frames := 1, cells := 0, slots := 0, locals := 20 } : Room) (va_Pc [.ref (b0)] (JP D T x ([(b0, .inr (11, [.ref q0, .int 0, .int 0, .int (nI n0)])), (q0, .inl (T 3, cm, .inl a0))]) sz)) (va_Qi (fun r9 (u : Unit) => r9 = nI n0) (fun u t => QS D T (va_A ([(b0, .inr (11, [.ref q0, .int 0, .int 0, .int (nI n0)])), (q0, .inl (T 3, cm, .inl a0))]) sz) ([(b0, .inr (11, [.ref q0, .int 0, .int 0, .int (nI n0)])), (q0, .inl (T 3, cm, .inl a0))] : va_W) t) (va_A ([(b0, .inr (11, [.ref q0, .int 0, .int 0, .int (nI n0)])), (q0, .inl (T 3, cm, .inl a0))]) sz)) 0 0 (va_A ([(b0, .inr (11, [.ref q0, .int 0, .int 0, .int (nI n0)])), (q0, .inl (T 3, cm, .inl a0))]) sz) := by
  refine metJi (ty := .int) (wu := fun (u : Unit) => ([(b0, .inr (11, [.ref q0, .int 0, .int 0, .int (nI n0)])), (q0, .inl (T 3, cm, .inl a0))] : va_W)) (cc := cJ4_length_8abf5) (maxL := 1) (by decide) rfl (fun _ _ _ => rfl) (Nat.le_of_ble_eq_true rfl) ?_
  intro p e s m args below meth c Q ls A hx hb hml hown hts hX hP hK hD hA hS hl hret
  have hown : s.vm.findClass RJ4 = some m.cls := hown
  have hl : lv_has ls 1 [(0, .ref (b0))] := hl
  have hgo : ∀ (H : Heap) (locs : List Loc), va_P D vwCl ([(b0, .inr (11, [.ref q0, .int 0, .int 0, .int (nI n0)])), (q0, .inl (T 3, cm, .inl a0))]) H → va_S A s.heap H locs → W p l e ({ frames := 1, cells := 0, slots := 0, locals := 20 } : Room) s m args below meth c H locs (0) (0) Q (F0 m 0 ls []) := by
    intro H locs hP hS
    refine lv_aload_n hx hb dJ4_length_8abf5_0 rfl (lv_at hl 0 rfl) ?_
    have hF0 : Foc [(b0, .inr (11, [.ref q0, .int 0, .int 0, .int (nI n0)])), (q0, .inl (T 3, cm, .inl a0))] [(b0, .inr (11, [.ref q0, .int 0, .int 0, .int (nI n0)])), (q0, .inl (T 3, cm, .inl a0))] [(b0, .inr (11, [.ref q0, .int 0, .int 0, .int (nI n0)])), (q0, .inl (T 3, cm, .inl a0))] [(b0, .inr (11, [.ref q0, .int 0, .int 0, .int (nI n0)])), (q0, .inl (T 3, cm, .inl a0))] := Foc.rfl _ _
    refine jti (S := Unit) (ws1 := fun u => ([(b0, .inr (11, [.ref q0, .int 0, .int 0, .int (nI n0)])), (q0, .inl (T 3, cm, .inl a0))] : va_W)) (wc1 := fun u => ([(b0, .inr (11, [.ref q0, .int 0, .int 0, .int (nI n0)])), (q0, .inl (T 3, cm, .inl a0))] : va_W)) (va_runSU (C := RJ4) (b := b0) (As := []) (rest := []) (hK.1 11 _ rfl).2 ⟨hx, hb, hml, hown, hts⟩ (c_J5_length_8abf5 l D T x b0 q0 cm n0 a0 _) (va_cwSU 0 hts (gCJ gj74SU_RJ4_343_J5_length_8abf5) rfl rfl rfl (by decide +kernel) ⟨Nat.le_of_ble_eq_true rfl, Nat.le_of_ble_eq_true rfl⟩) ⟨JP.blind _ _ _ _ _ _, va_recv (ci := 11) (q0 := 0) hK ((hF0).subP hP) rfl rfl, jpre (As := [.ref (b0)]) hF0 hX hK hP hD hS hA⟩ rfl rfl hl.1 rfl (lv_room (m := m) (pc := 1) (ls := ls) (rest := [.ref (b0)]) (st := []) (Nat.le_of_ble_eq_true rfl)) dJ4_length_8abf5_1 ⟨by show _ ≤ 0; omega, by show _ ≤ 0; omega⟩) (fun u => Foc.rfl _ _) (hF0) hP hD hS hA (fun r9 u H locs hr hP hD hS => ?_)
    subst hr
    have hP : va_P D vwCl ([(b0, .inr (11, [.ref q0, .int 0, .int 0, .int (nI n0)])), (q0, .inl (T 3, cm, .inl a0))]) H := hP
    have hD : va_D A ([(b0, .inr (11, [.ref q0, .int 0, .int 0, .int (nI n0)])), (q0, .inl (T 3, cm, .inl a0))]) := hD
    exact hret _ _ _ _ _ _ (nI n0) () dJ4_length_8abf5_4 (rfl) hP hD hS (by omega) (by omega)
  exact hgo _ _ hP hS

set_option maxHeartbeats 4000000 in
set_option maxRecDepth 100000 in
theorem c_J7_checkLength_df160 (l : Launch) (n0 : Nat) (hn : n0 ≤ 798) : Met l yJ7_checkLength_df160 vtJ7_checkLength_df160 ({ frames := 0, cells := 0, slots := 0, locals := 0 } : Room) (va_Pc [.int (0), .int (nI n0)] (fun _ => True)) QcVoid 0 0 (fun _ => False) := by
  refine metBv (cc := cJ7_checkLength_df160) (maxL := 2) (by decide) rfl (Nat.le_of_ble_eq_true rfl) ?_
  intro p e s m args below meth c Q ls hx hb hml hown hts hB hl hret
  have hown : s.vm.findClass RJ7 = some m.cls := hown
  have hl : lv_has ls 2 [(0, .int (0)), (1, .int (nI n0))] := hl
  refine lv_iload_n hx hb dJ7_checkLength_df160_0 rfl (lv_at hl 1 rfl) ?_
  refine lv_iload_n hx hb dJ7_checkLength_df160_1 rfl (lv_at hl 0 rfl) ?_
  refine lv_icmp_ge (tgt := 37) hx hb dJ7_checkLength_df160_2 (by decide) (fun _ => ?_) (fun h9 => absurd (nI_ge0 (n := n0) (by omega)) h9)
  exact hret ls _ dJ7_checkLength_df160_37

set_option maxHeartbeats 4000000 in
set_option maxRecDepth 100000 in
theorem c_J7_copyOfRangeByte_39247 (l : Launch) (D : va_G) (T : Nat → ClassId) (x : JV) (q0 cm n0 : Nat) (a0 : Nat → Int32) (hm : cm ≤ 798) (hn : n0 ≤ cm) (hf : sb_Fit a0) (sz : Nat) : Met l yJ7_copyOfRangeByte_39247 vtJ7_copyOfRangeByte_39247 ({ frames := 1, cells := 1, slots := 798, locals := 60 } : Room) (va_Pc [.ref (q0), .int (0), .int (nI n0)] (JP D T x ([(q0, .inl (T 3, cm, .inl a0))]) sz)) (va_Qr (fun (u : Nat × (Nat → Int32)) => sb_Fit u.2 ∧ ∀ j, j < n0 → u.2 j = a0 j) (fun u b9 t => b9 = (fun (u : Nat × (Nat → Int32)) => u.1) u ∧ QS D T (va_A ([(q0, .inl (T 3, cm, .inl a0))]) sz) ([(q0, .inl (T 3, cm, .inl a0)), (u.1, .inl (T 3, n0, .inl u.2))] : va_W) t) (va_A ([(q0, .inl (T 3, cm, .inl a0))]) sz)) 1 798 (va_A ([(q0, .inl (T 3, cm, .inl a0))]) sz) := by
  refine metJr (ty := (.array .byte)) (wu := fun (u : Nat × (Nat → Int32)) => ([(q0, .inl (T 3, cm, .inl a0)), (u.1, .inl (T 3, n0, .inl u.2))] : va_W)) (ru := fun (u : Nat × (Nat → Int32)) => u.1) (cc := cJ7_copyOfRangeByte_39247) (maxL := 5) (by decide) rfl (Or.inr ⟨_, rfl⟩) (Nat.le_of_ble_eq_true rfl) ?_
  intro p e s m args below meth c Q ls A hx hb hml hown hts hX hP hK hD hA hS hl hret
  have hown : s.vm.findClass RJ7 = some m.cls := hown
  have hl : lv_has ls 5 [(0, .ref (q0)), (1, .int (0)), (2, .int (nI n0))] := hl
  have kmw_358 := hts (Cond.initialized "java/lang/System") (List.mem_cons_of_mem _ (gJ_of mw_358 rfl))
  have kmw_359 := hts (Cond.static arraycopyName) (List.mem_cons_of_mem _ (gJ_of mw_359 rfl))
  have kmw_360 := hts (Cond.native arraycopyName) (List.mem_cons_of_mem _ (gJ_of mw_360 rfl))
  have kmw_478 := hts (Cond.initialized "java/lang/Math") (List.mem_cons_of_mem _ (gJ_of mw_478 rfl))
  have kmw_493 := hts (Cond.arrayClass .byte) (List.mem_cons_of_mem _ (gJ_of mw_493 rfl))
  have kmw_494 := hts (Cond.methodLink RJ7 304 Lib.Math.min.name) (List.mem_cons_of_mem _ (gJ_of mw_494 rfl))
  have kmw_495 := hts (Cond.static Lib.Math.min.name) (List.mem_cons_of_mem _ (gJ_of mw_495 rfl))
  have kmw_496 := hts (Cond.code Lib.Math.min.name Lib.Math.min.code 2 (some .int)) (List.mem_cons_of_mem _ (gJ_of mw_496 rfl))
  have kmw_497 := hts (Cond.methodLink RJ7 150 arraycopyName) (List.mem_cons_of_mem _ (gJ_of mw_497 rfl))
  have hgo : ∀ (H : Heap) (locs : List Loc), va_P D vwCl ([(q0, .inl (T 3, cm, .inl a0))]) H → va_S A s.heap H locs → W p l e ({ frames := 1, cells := 1, slots := 798, locals := 60 } : Room) s m args below meth c H locs (0) (0) Q (F0 m 0 ls []) := by
    intro H locs hP hS
    refine lv_iload_n hx hb dJ7_copyOfRangeByte_39247_0 rfl (lv_at hl 1 rfl) ?_
    refine lv_iload_n hx hb dJ7_copyOfRangeByte_39247_1 rfl (lv_at hl 2 rfl) ?_
    refine rdBSv (As := [.int (0), .int (nI n0)]) (rest := []) (B := fun _ => True) (fun _ _ _ _ _ => trivial) ⟨hx, hb, hml, hown, hts⟩ (c_J7_checkLength_df160 l n0 (by omega)) (va_cwS 2 hts (gCJ gj74S_RJ7_343_J7_checkLength_df160) rfl rfl rfl (by decide +kernel) ⟨Nat.le_of_ble_eq_true rfl, Nat.le_of_ble_eq_true rfl⟩) (fun _ _ _ => trivial) rfl hl.1 rfl (Nat.le_of_ble_eq_true rfl) ⟨by show _ ≤ 1; omega, by show _ ≤ 798; omega⟩ dJ7_copyOfRangeByte_39247_2 ?_
    refine lv_iload_n hx hb dJ7_copyOfRangeByte_39247_5 rfl (lv_at hl 2 rfl) ?_
    refine lv_iload_n hx hb dJ7_copyOfRangeByte_39247_6 rfl (lv_at hl 1 rfl) ?_
    refine lv_isub hx hb dJ7_copyOfRangeByte_39247_7 ?_
    refine endI (r := nI n0) (pk_sub (a := n0) (b := 0) (by omega)) ?_
    refine lv_istore_n (lv' := [(3, .int (nI n0)), (0, .ref (q0)), (1, .int (0)), (2, .int (nI n0))]) hx hb dJ7_copyOfRangeByte_39247_8 rfl hl (by decide) rfl (fun ls hl => ?_)
    refine lv_iload_n hx hb dJ7_copyOfRangeByte_39247_9 rfl (lv_at hl 0 rfl) ?_
    refine newB hx hb kmw_493 hK hP hD hS hA (n := nI n0) (N' := n0) (nI_pos (by omega)) (nI_clamp (by omega)) (by omega) (by show _ ≤ 1; omega) (by show _ ≤ 798; omega) dJ7_copyOfRangeByte_39247_10 (fun q10 H hP hD hS => ?_)
    have hP : va_P D vwCl ([(q0, .inl (T 3, cm, .inl a0)), (q10, .inl (T 3, n0, .inl (fun _ => 0)))]) H := hP
    have hD : va_D A ([(q0, .inl (T 3, cm, .inl a0)), (q10, .inl (T 3, n0, .inl (fun _ => 0)))]) := hD
    refine lv_astore (lv' := [(4, .ref (q10)), (3, .int (nI n0)), (0, .ref (q0)), (1, .int (0)), (2, .int (nI n0))]) hx hb dJ7_copyOfRangeByte_39247_12 hl (by decide) rfl (fun ls hl => ?_)
    refine lv_aload_n hx hb dJ7_copyOfRangeByte_39247_14 rfl (lv_at hl 2 rfl) ?_
    refine lv_iload_n hx hb dJ7_copyOfRangeByte_39247_15 rfl (lv_at hl 3 rfl) ?_
    refine lv_aload hx hb dJ7_copyOfRangeByte_39247_16 (lv_at hl 0 rfl) ?_
    refine lv_iconst (v := 0) hx hb dJ7_copyOfRangeByte_39247_18 (by decide) ?_
    refine lv_aload_n hx hb dJ7_copyOfRangeByte_39247_19 rfl (lv_at hl 2 rfl) ?_
    refine va_alen (v := nI cm) hx hb hK hP 0 3 rfl rfl rfl dJ7_copyOfRangeByte_39247_20 ?_
    refine lv_iload_n hx hb dJ7_copyOfRangeByte_39247_21 rfl (lv_at hl 3 rfl) ?_
    refine lv_isub hx hb dJ7_copyOfRangeByte_39247_22 ?_
    refine endI (r := nI cm) (pk_sub (a := cm) (b := 0) (by omega)) ?_
    refine lv_iload_n hx hb dJ7_copyOfRangeByte_39247_23 rfl (lv_at hl 1 rfl) ?_
    refine va_mmin hx hb (hml.trans hl.1.symm) hown kmw_494 kmw_495 kmw_478 kmw_496 (by decide) (Nat.le_of_ble_eq_true rfl) (by show _ ≤ 1; omega) (by show _ ≤ 798; omega) dJ7_copyOfRangeByte_39247_24 ?_
    refine endI (r := nI n0) (by by_cases h9 : n0 < cm; (· exact if_pos (nI_lt h9 (by omega))); (· rw [if_neg (nI_nlt (by omega) (by omega))]; congr 1; omega)) ?_
    refine va_copyi (ty := .byte) hx hb (hml.trans hl.1.symm) hown kmw_497 kmw_360 kmw_359 kmw_358 hK hP hD hS 0 1 3 3 rfl rfl rfl rfl rfl (by decide) (by decide) (nI_pos (by omega)) (by rw [sb_cl0, nI_clamp (by omega)]; omega) (by rw [sb_cl0, nI_clamp (by omega)]; omega) (fun i _ => hf _) (Nat.le_of_ble_eq_true rfl) (Nat.le_of_ble_eq_true rfl) dJ7_copyOfRangeByte_39247_27 (fun H locs hP hD hS => ?_)
    rw [sb_cl0, nI_clamp (n := n0) (by omega)] at hP hD
    have hP : va_P D vwCl ([(q0, .inl (T 3, cm, .inl a0)), (q10, .inl (T 3, n0, .inl (va_cpy a0 (fun _ => 0) 0 0 n0)))]) H := hP
    have hD : va_D A ([(q0, .inl (T 3, cm, .inl a0)), (q10, .inl (T 3, n0, .inl (va_cpy a0 (fun _ => 0) 0 0 n0)))]) := hD
    refine lv_aload hx hb dJ7_copyOfRangeByte_39247_30 (lv_at hl 0 rfl) ?_
    exact hret _ _ _ _ _ _ (q10, va_cpy a0 (fun _ => 0) 0 0 n0) dJ7_copyOfRangeByte_39247_32 (⟨sb_fitC hf sb_fit0, fun j hj => sb_cpy0 (f := a0) (g := fun _ => 0) (n := n0) hj⟩) hP hD hS (by omega) (by omega)
  exact hgo _ _ hP hS

set_option maxHeartbeats 4000000 in
set_option maxRecDepth 100000 in
theorem c_J7_copyOfRange_39247 (l : Launch) (D : va_G) (T : Nat → ClassId) (x : JV) (q0 cm n0 : Nat) (a0 : Nat → Int32) (hm : cm ≤ 798) (hn : n0 ≤ cm) (hf : sb_Fit a0) (sz : Nat) : Met l yJ7_copyOfRange_39247 vtJ7_copyOfRange_39247 ({ frames := 2, cells := 1, slots := 798, locals := 84 } : Room) (va_Pc [.ref (q0), .int (0), .int (nI n0)] (JP D T x ([(q0, .inl (T 3, cm, .inl a0))]) sz)) (va_Qr (fun (u : Nat × (Nat → Int32)) => sb_Fit u.2 ∧ ∀ j, j < n0 → u.2 j = a0 j) (fun u b9 t => b9 = (fun (u : Nat × (Nat → Int32)) => u.1) u ∧ QS D T (va_A ([(q0, .inl (T 3, cm, .inl a0))]) sz) ([(q0, .inl (T 3, cm, .inl a0)), (u.1, .inl (T 3, n0, .inl u.2))] : va_W) t) (va_A ([(q0, .inl (T 3, cm, .inl a0))]) sz)) 1 798 (va_A ([(q0, .inl (T 3, cm, .inl a0))]) sz) := by
  refine metJr (ty := (.array .byte)) (wu := fun (u : Nat × (Nat → Int32)) => ([(q0, .inl (T 3, cm, .inl a0)), (u.1, .inl (T 3, n0, .inl u.2))] : va_W)) (ru := fun (u : Nat × (Nat → Int32)) => u.1) (cc := cJ7_copyOfRange_39247) (maxL := 3) (by decide) rfl (Or.inr ⟨_, rfl⟩) (Nat.le_of_ble_eq_true rfl) ?_
  intro p e s m args below meth c Q ls A hx hb hml hown hts hX hP hK hD hA hS hl hret
  have hown : s.vm.findClass RJ7 = some m.cls := hown
  have hl : lv_has ls 3 [(0, .ref (q0)), (1, .int (0)), (2, .int (nI n0))] := hl
  have kmw_487 := hts (Cond.methodLink RJ7 310 ⟨"[B", "clone", "()Ljava/lang/Object;"⟩) (List.mem_cons_of_mem _ (gJ_of mw_487 rfl))
  have kmw_488 := hts (Cond.sameMethod "[B" "java/lang/Object" "clone" "()Ljava/lang/Object;") (List.mem_cons_of_mem _ (gJ_of mw_488 rfl))
  have kmw_489 := hts (Cond.native ⟨"java/lang/Object", "clone", "()Ljava/lang/Object;"⟩) (List.mem_cons_of_mem _ (gJ_of mw_489 rfl))
  have kmw_490 := hts (Cond.instanceMethod ⟨"java/lang/Object", "clone", "()Ljava/lang/Object;"⟩) (List.mem_cons_of_mem _ (gJ_of mw_490 rfl))
  have kmw_491 := hts (Cond.selects "[B" ⟨"[B", "clone", "()Ljava/lang/Object;"⟩ ⟨"java/lang/Object", "clone", "()Ljava/lang/Object;"⟩) (List.mem_cons_of_mem _ (gJ_of mw_491 rfl))
  have kmw_492 := hts (Cond.classLink RJ7 311 "[B") (List.mem_cons_of_mem _ (gJ_of mw_492 rfl))
  have hgo : ∀ (H : Heap) (locs : List Loc), va_P D vwCl ([(q0, .inl (T 3, cm, .inl a0))]) H → va_S A s.heap H locs → W p l e ({ frames := 2, cells := 1, slots := 798, locals := 84 } : Room) s m args below meth c H locs (0) (0) Q (F0 m 0 ls []) := by
    intro H locs hP hS
    refine lv_iload_n hx hb dJ7_copyOfRange_39247_0 rfl (lv_at hl 1 rfl) ?_
    refine lv_if_ne (tgt := 10) hx hb dJ7_copyOfRange_39247_1 (by decide) (fun c1 => ?_) (fun c1 => ?_)
    ·
      exact absurd c1 (by decide)
    ·
      refine lv_iload_n hx hb dJ7_copyOfRange_39247_4 rfl (lv_at hl 2 rfl) ?_
      refine lv_aload_n hx hb dJ7_copyOfRange_39247_5 rfl (lv_at hl 0 rfl) ?_
      refine va_alen (v := nI cm) hx hb hK hP 0 3 rfl rfl rfl dJ7_copyOfRange_39247_6 ?_
      by_cases hnm : n0 = cm
      ·
        subst hnm
        refine lv_icmp_eq (tgt := 17) hx hb dJ7_copyOfRange_39247_7 (by decide) (fun _ => ?_) (fun h9 => absurd rfl h9)
        refine lv_aload_n hx hb dJ7_copyOfRange_39247_17 rfl (lv_at hl 0 rfl) ?_
        have hfB : s.vm.findClass "[B" = some (T 3) := (hK.2 3 _ rfl).2
        refine va_clone (ty := .byte) (cA := T 3) (x := (n0, .inl a0)) hx hb (hml.trans hl.1.symm) hown kmw_487 kmw_488 kmw_489 kmw_490 kmw_491 hX.2.2.2.2.1 hK hP hD hS hA 0 3 rfl rfl hfB (fit_arr hf) (Nat.le_of_ble_eq_true rfl) (Nat.le_of_ble_eq_true rfl) (by show _ ≤ 1; omega) (by show _ + n0 ≤ 798; omega) dJ7_copyOfRange_39247_18 (fun q9 H hK9 hP hD hS => ?_)
        have hP : va_P D vwCl ([(q0, .inl (T 3, n0, .inl a0)), (q9, .inl (T 3, n0, .inl a0))]) H := hP
        have hD : va_D A ([(q0, .inl (T 3, n0, .inl a0)), (q9, .inl (T 3, n0, .inl a0))]) := hD
        refine va_castA hx hb hown kmw_492 hP 1 rfl hfB dJ7_copyOfRange_39247_21 ?_
        exact hret _ _ _ _ _ _ (q9, a0) dJ7_copyOfRange_39247_24 (⟨hf, fun _ _ => rfl⟩) hP hD hS (by omega) (by omega)
      ·
        refine lv_icmp_eq (tgt := 17) hx hb dJ7_copyOfRange_39247_7 (by decide) (fun h9 => absurd ((nI_eq (by omega) (by omega)).mp h9) hnm) (fun _ => ?_)
        refine lv_aload_n hx hb dJ7_copyOfRange_39247_10 rfl (lv_at hl 0 rfl) ?_
        refine lv_iload_n hx hb dJ7_copyOfRange_39247_11 rfl (lv_at hl 1 rfl) ?_
        refine lv_iload_n hx hb dJ7_copyOfRange_39247_12 rfl (lv_at hl 2 rfl) ?_
        have hF0 : Foc [(q0, .inl (T 3, cm, .inl a0))] [(q0, .inl (T 3, cm, .inl a0))] [(q0, .inl (T 3, cm, .inl a0))] [(q0, .inl (T 3, cm, .inl a0))] := Foc.rfl _ _
        refine jtr (S := Nat × (Nat → Int32)) (ws1 := fun u => ([(q0, .inl (T 3, cm, .inl a0)), (u.1, .inl (T 3, n0, .inl u.2))] : va_W)) (wc1 := fun u => ([(q0, .inl (T 3, cm, .inl a0)), (u.1, .inl (T 3, n0, .inl u.2))] : va_W)) (ru := fun u => u.1) (va_runS (As := [.ref (q0), .int (0), .int (nI n0)]) (rest := []) ⟨hx, hb, hml, hown, hts⟩ (c_J7_copyOfRangeByte_39247 l D T x q0 cm n0 a0 hm hn hf _) (va_cwS 3 hts (gCJ gj74S_RJ7_339_J7_copyOfRangeByte_39247) rfl rfl rfl (by decide +kernel) ⟨Nat.le_of_ble_eq_true rfl, Nat.le_of_ble_eq_true rfl⟩) ⟨JP.blind _ _ _ _ _ _, jpre (As := [.ref (q0), .int (0), .int (nI n0)]) hF0 hX hK hP hD hS hA⟩ rfl rfl hl.1 rfl (lv_room (m := m) (pc := 13) (ls := ls) (rest := [.int (nI n0), .int (0), .ref (q0)]) (st := []) (Nat.le_of_ble_eq_true rfl)) dJ7_copyOfRange_39247_13 ⟨by show _ ≤ 1; omega, by show _ ≤ 798; omega⟩) (fun u => Foc.rfl _ _) (hF0) hP hD hS hA (fun u H locs hr hP hD hS => ?_)
        obtain ⟨q9, a9⟩ := u
        have hP : va_P D vwCl ([(q0, .inl (T 3, cm, .inl a0)), (q9, .inl (T 3, n0, .inl a9))]) H := hP
        have hD : va_D A ([(q0, .inl (T 3, cm, .inl a0)), (q9, .inl (T 3, n0, .inl a9))]) := hD
        exact hret _ _ _ _ _ _ (q9, a9) dJ7_copyOfRange_39247_16 (hr) hP hD hS (by omega) (by omega)
  exact hgo _ _ hP hS

set_option maxHeartbeats 4000000 in
set_option maxRecDepth 100000 in
theorem c_J0_init_db425 (l : Launch) (D : va_G) (T : Nat → ClassId) (x : JV) (r0 b0 q0 cm n0 : Nat) (a0 : Nat → Int32) (hm : cm ≤ 798) (hn : n0 ≤ cm) (hf : sb_Fit a0) (sz : Nat) : Met l yJ0_init_db425 vtJ0_init_db425 ({ frames := 3, cells := 1, slots := 798, locals := 106 } : Room) (va_Pc [.ref (r0), .ref (b0), .null] (JP D T x ([(r0, .inr (10, [.null, .int 0, .int 0, .int 0])), (b0, .inr (11, [.ref q0, .int 0, .int 0, .int (nI n0)])), (q0, .inl (T 3, cm, .inl a0))]) sz)) (va_Qv (fun (u : Nat × (Nat → Int32)) => sb_Fit u.2 ∧ ∀ j, j < n0 → u.2 j = a0 j) (fun u t => QS D T (va_A ([(r0, .inr (10, [.null, .int 0, .int 0, .int 0])), (b0, .inr (11, [.ref q0, .int 0, .int 0, .int (nI n0)])), (q0, .inl (T 3, cm, .inl a0))]) sz) ([(r0, .inr (10, [.ref u.1, .int 0, .int 0, .int 0])), (b0, .inr (11, [.ref q0, .int 0, .int 0, .int (nI n0)])), (q0, .inl (T 3, cm, .inl a0)), (u.1, .inl (T 3, n0, .inl u.2))] : va_W) t) (va_A ([(r0, .inr (10, [.null, .int 0, .int 0, .int 0])), (b0, .inr (11, [.ref q0, .int 0, .int 0, .int (nI n0)])), (q0, .inl (T 3, cm, .inl a0))]) sz)) 1 798 (va_A ([(r0, .inr (10, [.null, .int 0, .int 0, .int 0])), (b0, .inr (11, [.ref q0, .int 0, .int 0, .int (nI n0)])), (q0, .inl (T 3, cm, .inl a0))]) sz) := by
  refine metJk (wu := fun (u : Nat × (Nat → Int32)) => ([(r0, .inr (10, [.ref u.1, .int 0, .int 0, .int 0])), (b0, .inr (11, [.ref q0, .int 0, .int 0, .int (nI n0)])), (q0, .inl (T 3, cm, .inl a0)), (u.1, .inl (T 3, n0, .inl u.2))] : va_W)) (cc := cJ0_init_db425) (maxL := 5) (by decide) rfl rfl (Nat.le_of_ble_eq_true rfl) ?_
  intro p e s m args below meth c Q ls A hx hb hml hown hts hX hP hK hD hA hS hl hin hret
  have hown : s.vm.findClass RJ0 = some m.cls := hown
  have hl : lv_has ls 5 [(0, .ref (r0)), (1, .ref (b0)), (2, .null)] := hl
  have iRJ0 : ∀ w ∈ wsJ00, w ∈ vtJ0_init_db425 := fun w hw => List.mem_cons_of_mem _ ((g_RJ0 w hw).1)
  have kmw_114 := hts (Cond.code objectInit ⟨#[0xb1]⟩ 1 none) (List.mem_cons_of_mem _ (gJ_of mw_114 rfl))
  have kmw_115 := hts (Cond.instanceMethod objectInit) (List.mem_cons_of_mem _ (gJ_of mw_115 rfl))
  have kmw_205 := hts (Cond.fieldLink RJ0 15 "java/lang/String" "coder" "B") (List.mem_cons_of_mem _ (gJ_of mw_205 rfl))
  have kmw_211 := hts (Cond.fieldLink RJ0 9 "java/lang/String" "value" "[B") (List.mem_cons_of_mem _ (gJ_of mw_211 rfl))
  have kmw_611 := hts (Cond.methodLink RJ0 1 objectInit) (List.mem_cons_of_mem _ (gJ_of mw_611 rfl))
  have hgo : ∀ (H : Heap) (locs : List Loc), va_P D vwCl ([(r0, .inr (10, [.null, .int 0, .int 0, .int 0])), (b0, .inr (11, [.ref q0, .int 0, .int 0, .int (nI n0)])), (q0, .inl (T 3, cm, .inl a0))]) H → va_S A s.heap H locs → W p l e ({ frames := 3, cells := 1, slots := 798, locals := 106 } : Room) s m args below meth c H locs (0) (0) Q (F0 m 0 ls []) := by
    intro H locs hP hS
    refine lv_aload_n hx hb dJ0_init_db425_0 rfl (lv_at hl 0 rfl) ?_
    refine W.objInit hx hb hown kmw_611 kmw_115 kmw_114 rfl (by rw [hml]; exact hl.1) rfl dJ0_init_db425_1 (Nat.le_of_ble_eq_true rfl) (Nat.le_of_ble_eq_true rfl) ?_
    show W p l e ({ frames := 3, cells := 1, slots := 798, locals := 106 } : Room) s m args below meth c H locs (0) (0) Q (F0 m 4 ls [])
    refine lv_aload_n hx hb dJ0_init_db425_4 rfl (lv_at hl 1 rfl) ?_
    have hF0 : Foc [(r0, .inr (10, [.null, .int 0, .int 0, .int 0])), (b0, .inr (11, [.ref q0, .int 0, .int 0, .int (nI n0)])), (q0, .inl (T 3, cm, .inl a0))] [(b0, .inr (11, [.ref q0, .int 0, .int 0, .int (nI n0)])), (q0, .inl (T 3, cm, .inl a0))] [(r0, .inr (10, [.null, .int 0, .int 0, .int 0])), (b0, .inr (11, [.ref q0, .int 0, .int 0, .int (nI n0)])), (q0, .inl (T 3, cm, .inl a0))] [(b0, .inr (11, [.ref q0, .int 0, .int 0, .int (nI n0)])), (q0, .inl (T 3, cm, .inl a0))] := Foc.pre [(r0, .inr (10, [.null, .int 0, .int 0, .int 0]))] _ _
    refine jtr (S := Unit) (ws1 := fun u => ([(r0, .inr (10, [.null, .int 0, .int 0, .int 0]))] ++ [(b0, .inr (11, [.ref q0, .int 0, .int 0, .int (nI n0)])), (q0, .inl (T 3, cm, .inl a0))] : va_W)) (wc1 := fun u => ([(b0, .inr (11, [.ref q0, .int 0, .int 0, .int (nI n0)])), (q0, .inl (T 3, cm, .inl a0))] : va_W)) (ru := fun u => q0) (va_runU (C := RJ4) (b := b0) (As := []) (rest := []) ⟨hx, hb, hml, hown, hts⟩ (c_J5_getValue_6d5f1 l D T x b0 q0 cm n0 a0 _) (va_cwU 0 hts (gCJ gj74U_RJ0_552_J5_getValue_6d5f1) rfl rfl rfl rfl (by decide +kernel) ⟨Nat.le_of_ble_eq_true rfl, Nat.le_of_ble_eq_true rfl⟩) ⟨JP.blind _ _ _ _ _ _, va_recv (ci := 11) (q0 := 0) hK ((hF0).subP hP) rfl rfl, jpre (As := [.ref (b0)]) hF0 hX hK hP hD hS hA⟩ rfl rfl hl.1 rfl (lv_room (m := m) (pc := 5) (ls := ls) (rest := [.ref (b0)]) (st := []) (Nat.le_of_ble_eq_true rfl)) dJ0_init_db425_5 ⟨by show _ ≤ 1; omega, by show _ ≤ 798; omega⟩) (fun u => Foc.pre [(r0, .inr (10, [.null, .int 0, .int 0, .int 0]))] _ _) (hF0) hP hD hS hA (fun u H locs hr hP hD hS => ?_)
    have hP : va_P D vwCl ([(r0, .inr (10, [.null, .int 0, .int 0, .int 0])), (b0, .inr (11, [.ref q0, .int 0, .int 0, .int (nI n0)])), (q0, .inl (T 3, cm, .inl a0))]) H := hP
    have hD : va_D A ([(r0, .inr (10, [.null, .int 0, .int 0, .int 0])), (b0, .inr (11, [.ref q0, .int 0, .int 0, .int (nI n0)])), (q0, .inl (T 3, cm, .inl a0))]) := hD
    refine lv_astore_n (lv' := [(3, .ref (q0)), (0, .ref (r0)), (1, .ref (b0)), (2, .null)]) hx hb dJ0_init_db425_8 rfl hl (by decide) rfl (fun ls hl => ?_)
    refine lv_aload_n hx hb dJ0_init_db425_9 rfl (lv_at hl 2 rfl) ?_
    have hF0 : Foc [(r0, .inr (10, [.null, .int 0, .int 0, .int 0])), (b0, .inr (11, [.ref q0, .int 0, .int 0, .int (nI n0)])), (q0, .inl (T 3, cm, .inl a0))] [(b0, .inr (11, [.ref q0, .int 0, .int 0, .int (nI n0)])), (q0, .inl (T 3, cm, .inl a0))] [(r0, .inr (10, [.null, .int 0, .int 0, .int 0])), (b0, .inr (11, [.ref q0, .int 0, .int 0, .int (nI n0)])), (q0, .inl (T 3, cm, .inl a0))] [(b0, .inr (11, [.ref q0, .int 0, .int 0, .int (nI n0)])), (q0, .inl (T 3, cm, .inl a0))] := Foc.pre [(r0, .inr (10, [.null, .int 0, .int 0, .int 0]))] _ _
    refine jti (S := Unit) (ws1 := fun u => ([(r0, .inr (10, [.null, .int 0, .int 0, .int 0]))] ++ [(b0, .inr (11, [.ref q0, .int 0, .int 0, .int (nI n0)])), (q0, .inl (T 3, cm, .inl a0))] : va_W)) (wc1 := fun u => ([(b0, .inr (11, [.ref q0, .int 0, .int 0, .int (nI n0)])), (q0, .inl (T 3, cm, .inl a0))] : va_W)) (va_runU (C := RJ4) (b := b0) (As := []) (rest := []) ⟨hx, hb, hml, hown, hts⟩ (c_J4_length_8abf5 l D T x b0 q0 cm n0 a0 _) (va_cwO 0 hts (gCJ gj74O_RJ0_549_J4_length_8abf5) rfl rfl rfl (List.mem_cons_of_mem _ (gJ_of mw_464 rfl)) (by decide +kernel) ⟨Nat.le_of_ble_eq_true rfl, Nat.le_of_ble_eq_true rfl⟩) ⟨JP.blind _ _ _ _ _ _, va_recv (ci := 11) (q0 := 0) hK ((hF0).subP hP) rfl rfl, jpre (As := [.ref (b0)]) hF0 hX hK hP hD hS hA⟩ rfl rfl hl.1 rfl (lv_room (m := m) (pc := 10) (ls := ls) (rest := [.ref (b0)]) (st := []) (Nat.le_of_ble_eq_true rfl)) dJ0_init_db425_10 ⟨by show _ ≤ 1; omega, by show _ ≤ 798; omega⟩) (fun u => Foc.pre [(r0, .inr (10, [.null, .int 0, .int 0, .int 0]))] _ _) (hF0) hP hD hS hA (fun r9 u H locs hr hP hD hS => ?_)
    subst hr
    have hP : va_P D vwCl ([(r0, .inr (10, [.null, .int 0, .int 0, .int 0])), (b0, .inr (11, [.ref q0, .int 0, .int 0, .int (nI n0)])), (q0, .inl (T 3, cm, .inl a0))]) H := hP
    have hD : va_D A ([(r0, .inr (10, [.null, .int 0, .int 0, .int 0])), (b0, .inr (11, [.ref q0, .int 0, .int 0, .int (nI n0)])), (q0, .inl (T 3, cm, .inl a0))]) := hD
    refine lv_istore (lv' := [(4, .int (nI n0)), (3, .ref (q0)), (0, .ref (r0)), (1, .ref (b0)), (2, .null)]) hx hb dJ0_init_db425_13 hl (by decide) rfl (fun ls hl => ?_)
    refine lv_aload_n hx hb dJ0_init_db425_15 rfl (lv_at hl 3 rfl) ?_
    have hF0 : Foc [(r0, .inr (10, [.null, .int 0, .int 0, .int 0])), (b0, .inr (11, [.ref q0, .int 0, .int 0, .int (nI n0)])), (q0, .inl (T 3, cm, .inl a0))] [(b0, .inr (11, [.ref q0, .int 0, .int 0, .int (nI n0)])), (q0, .inl (T 3, cm, .inl a0))] [(r0, .inr (10, [.null, .int 0, .int 0, .int 0])), (b0, .inr (11, [.ref q0, .int 0, .int 0, .int (nI n0)])), (q0, .inl (T 3, cm, .inl a0))] [(b0, .inr (11, [.ref q0, .int 0, .int 0, .int (nI n0)])), (q0, .inl (T 3, cm, .inl a0))] := Foc.pre [(r0, .inr (10, [.null, .int 0, .int 0, .int 0]))] _ _
    refine jti (S := Unit) (ws1 := fun u => ([(r0, .inr (10, [.null, .int 0, .int 0, .int 0]))] ++ [(b0, .inr (11, [.ref q0, .int 0, .int 0, .int (nI n0)])), (q0, .inl (T 3, cm, .inl a0))] : va_W)) (wc1 := fun u => ([(b0, .inr (11, [.ref q0, .int 0, .int 0, .int (nI n0)])), (q0, .inl (T 3, cm, .inl a0))] : va_W)) (va_runU (C := RJ4) (b := b0) (As := []) (rest := []) ⟨hx, hb, hml, hown, hts⟩ (c_J5_isLatin1_aae02 l D T x b0 q0 cm n0 a0 _) (va_cwU 0 hts (gCJ gj74U_RJ0_1047_J5_isLatin1_aae02) rfl rfl rfl rfl (by decide +kernel) ⟨Nat.le_of_ble_eq_true rfl, Nat.le_of_ble_eq_true rfl⟩) ⟨JP.blind _ _ _ _ _ _, va_recv (ci := 11) (q0 := 0) hK ((hF0).subP hP) rfl rfl, jpre (As := [.ref (b0)]) hF0 hX hK hP hD hS hA⟩ rfl rfl hl.1 rfl (lv_room (m := m) (pc := 16) (ls := ls) (rest := [.ref (b0)]) (st := []) (Nat.le_of_ble_eq_true rfl)) dJ0_init_db425_16 ⟨by show _ ≤ 1; omega, by show _ ≤ 798; omega⟩) (fun u => Foc.pre [(r0, .inr (10, [.null, .int 0, .int 0, .int 0]))] _ _) (hF0) hP hD hS hA (fun r9 u H locs hr hP hD hS => ?_)
    subst hr
    have hP : va_P D vwCl ([(r0, .inr (10, [.null, .int 0, .int 0, .int 0])), (b0, .inr (11, [.ref q0, .int 0, .int 0, .int (nI n0)])), (q0, .inl (T 3, cm, .inl a0))]) H := hP
    have hD : va_D A ([(r0, .inr (10, [.null, .int 0, .int 0, .int 0])), (b0, .inr (11, [.ref q0, .int 0, .int 0, .int (nI n0)])), (q0, .inl (T 3, cm, .inl a0))]) := hD
    refine lv_if_eq (tgt := 41) hx hb dJ0_init_db425_19 (by decide) (fun c19 => ?_) (fun c19 => ?_)
    ·
      exact absurd c19 (by decide)
    ·
      refine lv_aload_n hx hb dJ0_init_db425_22 rfl (lv_at hl 2 rfl) ?_
      refine lv_iconst (v := 0) hx hb dJ0_init_db425_23 (by decide) ?_
      refine va_putF (D := D) (ci := 10) (v := .int 0) (ty := .byte) (C := RJ0) (T := TJ0) (N := 4) hx hb hts iRJ0 tyJ0 tyJ0_ok nmJ0 hown hK hP hD hS 0 rfl rfl 1 (by decide) kmw_205 (fun _ h9 => h9) rfl hin rfl (by decide +kernel) rfl rfl (Nat.le_of_ble_eq_true rfl) dJ0_init_db425_24 (fun H locs hP hD hS => ?_)
      have hP : va_P D vwCl ([(r0, .inr (10, [.null, .int 0, .int 0, .int 0])), (b0, .inr (11, [.ref q0, .int 0, .int 0, .int (nI n0)])), (q0, .inl (T 3, cm, .inl a0))]) H := hP
      have hD : va_D A ([(r0, .inr (10, [.null, .int 0, .int 0, .int 0])), (b0, .inr (11, [.ref q0, .int 0, .int 0, .int (nI n0)])), (q0, .inl (T 3, cm, .inl a0))]) := hD
      refine lv_aload_n hx hb dJ0_init_db425_27 rfl (lv_at hl 2 rfl) ?_
      refine lv_aload_n hx hb dJ0_init_db425_28 rfl (lv_at hl 1 rfl) ?_
      refine lv_iconst (v := 0) hx hb dJ0_init_db425_29 (by decide) ?_
      refine lv_iload hx hb dJ0_init_db425_30 (lv_at hl 0 rfl) ?_
      have hF0 : Foc [(r0, .inr (10, [.null, .int 0, .int 0, .int 0])), (b0, .inr (11, [.ref q0, .int 0, .int 0, .int (nI n0)])), (q0, .inl (T 3, cm, .inl a0))] [(q0, .inl (T 3, cm, .inl a0))] [(r0, .inr (10, [.null, .int 0, .int 0, .int 0])), (b0, .inr (11, [.ref q0, .int 0, .int 0, .int (nI n0)])), (q0, .inl (T 3, cm, .inl a0))] [(q0, .inl (T 3, cm, .inl a0))] := Foc.pre [(r0, .inr (10, [.null, .int 0, .int 0, .int 0])), (b0, .inr (11, [.ref q0, .int 0, .int 0, .int (nI n0)]))] _ _
      refine jtr (S := Nat × (Nat → Int32)) (ws1 := fun u => ([(r0, .inr (10, [.null, .int 0, .int 0, .int 0])), (b0, .inr (11, [.ref q0, .int 0, .int 0, .int (nI n0)]))] ++ [(q0, .inl (T 3, cm, .inl a0)), (u.1, .inl (T 3, n0, .inl u.2))] : va_W)) (wc1 := fun u => ([(q0, .inl (T 3, cm, .inl a0)), (u.1, .inl (T 3, n0, .inl u.2))] : va_W)) (ru := fun u => u.1) (va_runS (As := [.ref (q0), .int (0), .int (nI n0)]) (rest := [.ref (r0)]) ⟨hx, hb, hml, hown, hts⟩ (c_J7_copyOfRange_39247 l D T x q0 cm n0 a0 hm hn hf _) (va_cwS 3 hts (gCJ gj74S_RJ0_54_J7_copyOfRange_39247) rfl rfl rfl (by decide +kernel) ⟨Nat.le_of_ble_eq_true rfl, Nat.le_of_ble_eq_true rfl⟩) ⟨JP.blind _ _ _ _ _ _, jpre (As := [.ref (q0), .int (0), .int (nI n0)]) hF0 hX hK hP hD hS hA⟩ rfl rfl hl.1 rfl (lv_room (m := m) (pc := 32) (ls := ls) (rest := [.int (nI n0), .int (0), .ref (q0), .ref (r0)]) (st := [.ref (r0)]) (Nat.le_of_ble_eq_true rfl)) dJ0_init_db425_32 ⟨by show _ ≤ 1; omega, by show _ ≤ 798; omega⟩) (fun u => Foc.pre [(r0, .inr (10, [.null, .int 0, .int 0, .int 0])), (b0, .inr (11, [.ref q0, .int 0, .int 0, .int (nI n0)]))] _ _) (hF0) hP hD hS hA (fun u H locs hr hP hD hS => ?_)
      obtain ⟨q9, a9⟩ := u
      have hP : va_P D vwCl ([(r0, .inr (10, [.null, .int 0, .int 0, .int 0])), (b0, .inr (11, [.ref q0, .int 0, .int 0, .int (nI n0)])), (q0, .inl (T 3, cm, .inl a0)), (q9, .inl (T 3, n0, .inl a9))]) H := hP
      have hD : va_D A ([(r0, .inr (10, [.null, .int 0, .int 0, .int 0])), (b0, .inr (11, [.ref q0, .int 0, .int 0, .int (nI n0)])), (q0, .inl (T 3, cm, .inl a0)), (q9, .inl (T 3, n0, .inl a9))]) := hD
      refine va_putF (D := D) (ci := 10) (v := .ref q9) (ty := .array .byte) (C := RJ0) (T := TJ0) (N := 4) hx hb hts iRJ0 tyJ0 tyJ0_ok nmJ0 hown hK hP hD hS 0 rfl rfl 0 (by decide) kmw_211 (fun _ h9 => h9) rfl hin rfl (by decide +kernel) rfl rfl (Nat.le_of_ble_eq_true rfl) dJ0_init_db425_35 (fun H locs hP hD hS => ?_)
      have hP : va_P D vwCl ([(r0, .inr (10, [.ref q9, .int 0, .int 0, .int 0])), (b0, .inr (11, [.ref q0, .int 0, .int 0, .int (nI n0)])), (q0, .inl (T 3, cm, .inl a0)), (q9, .inl (T 3, n0, .inl a9))]) H := hP
      have hD : va_D A ([(r0, .inr (10, [.ref q9, .int 0, .int 0, .int 0])), (b0, .inr (11, [.ref q0, .int 0, .int 0, .int (nI n0)])), (q0, .inl (T 3, cm, .inl a0)), (q9, .inl (T 3, n0, .inl a9))]) := hD
      refine lv_goto (tgt := 97) hx hb dJ0_init_db425_38 (by decide) ?_
      exact hret _ _ _ _ _ _ (q9, a9) dJ0_init_db425_97 (hr) hP hD hS (by omega) (by omega)
  exact hgo _ _ hP hS

set_option maxHeartbeats 4000000 in
set_option maxRecDepth 100000 in
theorem c_J0_init_81219 (l : Launch) (D : va_G) (T : Nat → ClassId) (x : JV) (r0 b0 q0 cm n0 : Nat) (a0 : Nat → Int32) (hm : cm ≤ 798) (hn : n0 ≤ cm) (hf : sb_Fit a0) (sz : Nat) : Met l yJ0_init_81219 vtJ0_init_81219 ({ frames := 4, cells := 1, slots := 798, locals := 130 } : Room) (va_Pc [.ref (r0), .ref (b0)] (JP D T x ([(r0, .inr (10, [.null, .int 0, .int 0, .int 0])), (b0, .inr (11, [.ref q0, .int 0, .int 0, .int (nI n0)])), (q0, .inl (T 3, cm, .inl a0))]) sz)) (va_Qv (fun (u : Nat × (Nat → Int32)) => sb_Fit u.2 ∧ ∀ j, j < n0 → u.2 j = a0 j) (fun u t => QS D T (va_A ([(r0, .inr (10, [.null, .int 0, .int 0, .int 0])), (b0, .inr (11, [.ref q0, .int 0, .int 0, .int (nI n0)])), (q0, .inl (T 3, cm, .inl a0))]) sz) ([(r0, .inr (10, [.ref u.1, .int 0, .int 0, .int 0])), (b0, .inr (11, [.ref q0, .int 0, .int 0, .int (nI n0)])), (q0, .inl (T 3, cm, .inl a0)), (u.1, .inl (T 3, n0, .inl u.2))] : va_W) t) (va_A ([(r0, .inr (10, [.null, .int 0, .int 0, .int 0])), (b0, .inr (11, [.ref q0, .int 0, .int 0, .int (nI n0)])), (q0, .inl (T 3, cm, .inl a0))]) sz)) 1 798 (va_A ([(r0, .inr (10, [.null, .int 0, .int 0, .int 0])), (b0, .inr (11, [.ref q0, .int 0, .int 0, .int (nI n0)])), (q0, .inl (T 3, cm, .inl a0))]) sz) := by
  refine metJv (wu := fun (u : Nat × (Nat → Int32)) => ([(r0, .inr (10, [.ref u.1, .int 0, .int 0, .int 0])), (b0, .inr (11, [.ref q0, .int 0, .int 0, .int (nI n0)])), (q0, .inl (T 3, cm, .inl a0)), (u.1, .inl (T 3, n0, .inl u.2))] : va_W)) (cc := cJ0_init_81219) (maxL := 2) (by decide) rfl (Nat.le_of_ble_eq_true rfl) ?_
  intro p e s m args below meth c Q ls A hx hb hml hown hts hX hP hK hD hA hS hl hret
  have hown : s.vm.findClass RJ0 = some m.cls := hown
  have hl : lv_has ls 2 [(0, .ref (r0)), (1, .ref (b0))] := hl
  have kmw_165 := hts (Cond.initialized RJ0) (List.mem_cons_of_mem _ (gJ_of mw_165 rfl))
  have kmw_632 := hts (Cond.methodLink RJ0 489 yJ0_init_db425) (List.mem_cons_of_mem _ (gJ_of mw_632 rfl))
  have kmw_633 := hts (Cond.instanceMethod yJ0_init_db425) (List.mem_cons_of_mem _ (gJ_of mw_633 rfl))
  have hgo : ∀ (H : Heap) (locs : List Loc), va_P D vwCl ([(r0, .inr (10, [.null, .int 0, .int 0, .int 0])), (b0, .inr (11, [.ref q0, .int 0, .int 0, .int (nI n0)])), (q0, .inl (T 3, cm, .inl a0))]) H → va_S A s.heap H locs → W p l e ({ frames := 4, cells := 1, slots := 798, locals := 130 } : Room) s m args below meth c H locs (0) (0) Q (F0 m 0 ls []) := by
    intro H locs hP hS
    refine lv_aload_n hx hb dJ0_init_81219_0 rfl (lv_at hl 0 rfl) ?_
    refine lv_aload_n hx hb dJ0_init_81219_1 rfl (lv_at hl 1 rfl) ?_
    refine lv_null hx hb dJ0_init_81219_2 ?_
    have hF0 : Foc [(r0, .inr (10, [.null, .int 0, .int 0, .int 0])), (b0, .inr (11, [.ref q0, .int 0, .int 0, .int (nI n0)])), (q0, .inl (T 3, cm, .inl a0))] [(r0, .inr (10, [.null, .int 0, .int 0, .int 0])), (b0, .inr (11, [.ref q0, .int 0, .int 0, .int (nI n0)])), (q0, .inl (T 3, cm, .inl a0))] [(r0, .inr (10, [.null, .int 0, .int 0, .int 0])), (b0, .inr (11, [.ref q0, .int 0, .int 0, .int (nI n0)])), (q0, .inl (T 3, cm, .inl a0))] [(r0, .inr (10, [.null, .int 0, .int 0, .int 0])), (b0, .inr (11, [.ref q0, .int 0, .int 0, .int (nI n0)])), (q0, .inl (T 3, cm, .inl a0))] := Foc.rfl _ _
    refine jtv (S := Nat × (Nat → Int32)) (ws1 := fun u => ([(r0, .inr (10, [.ref u.1, .int 0, .int 0, .int 0])), (b0, .inr (11, [.ref q0, .int 0, .int 0, .int (nI n0)])), (q0, .inl (T 3, cm, .inl a0)), (u.1, .inl (T 3, n0, .inl u.2))] : va_W)) (wc1 := fun u => ([(r0, .inr (10, [.ref u.1, .int 0, .int 0, .int 0])), (b0, .inr (11, [.ref q0, .int 0, .int 0, .int (nI n0)])), (q0, .inl (T 3, cm, .inl a0)), (u.1, .inl (T 3, n0, .inl u.2))] : va_W)) (va_runI (b := r0) (As := [.ref (b0), .null]) (rest := []) ⟨hx, hb, hml, hown, hts⟩ (c_J0_init_db425 l D T x r0 b0 q0 cm n0 a0 hm hn hf _) (cwI 2 hts (gCJ gw_vtJ0_init_db425) rfl rfl rfl kmw_165 kmw_632 kmw_633 rfl (by decide +kernel) ⟨Nat.le_of_ble_eq_true rfl, Nat.le_of_ble_eq_true rfl⟩) ⟨JP.blind _ _ _ _ _ _, jpre (As := [.ref (r0), .ref (b0), .null]) hF0 hX hK hP hD hS hA⟩ rfl rfl hl.1 rfl (lv_room (m := m) (pc := 3) (ls := ls) (rest := [.null, .ref (b0), .ref (r0)]) (st := []) (Nat.le_of_ble_eq_true rfl)) dJ0_init_81219_3 ⟨by show _ ≤ 1; omega, by show _ ≤ 798; omega⟩) (fun u => Foc.rfl _ _) (hF0) hP hD hS hA (fun u H locs hr hP hD hS => ?_)
    obtain ⟨q9, a9⟩ := u
    have hP : va_P D vwCl ([(r0, .inr (10, [.ref q9, .int 0, .int 0, .int 0])), (b0, .inr (11, [.ref q0, .int 0, .int 0, .int (nI n0)])), (q0, .inl (T 3, cm, .inl a0)), (q9, .inl (T 3, n0, .inl a9))]) H := hP
    have hD : va_D A ([(r0, .inr (10, [.ref q9, .int 0, .int 0, .int 0])), (b0, .inr (11, [.ref q0, .int 0, .int 0, .int (nI n0)])), (q0, .inl (T 3, cm, .inl a0)), (q9, .inl (T 3, n0, .inl a9))]) := hD
    exact hret _ _ _ _ _ _ (q9, a9) dJ0_init_81219_6 (hr) hP hD hS (by omega) (by omega)
  exact hgo _ _ hP hS

set_option maxHeartbeats 4000000 in
set_option maxRecDepth 100000 in
theorem c_J4_toString_0e30d (l : Launch) (D : va_G) (T : Nat → ClassId) (x : JV) (b0 q0 cm n0 : Nat) (a0 : Nat → Int32) (hm : cm ≤ 798) (hn : n0 ≤ cm) (hf : sb_Fit a0) (sz : Nat) : Met l yJ4_toString_0e30d vtJ4_toString_0e30d ({ frames := 5, cells := 2, slots := 802, locals := 151 } : Room) (va_Pc [.ref (b0)] (JP D T x ([(b0, .inr (11, [.ref q0, .int 0, .int 0, .int (nI n0)])), (q0, .inl (T 3, cm, .inl a0))]) sz)) (va_Qr (fun (u : Nat × Nat × (Nat → Int32)) => sb_Fit u.2.2 ∧ ∀ j, j < n0 → u.2.2 j = a0 j) (fun u b9 t => b9 = (fun (u : Nat × Nat × (Nat → Int32)) => u.1) u ∧ QS D T (va_A ([(b0, .inr (11, [.ref q0, .int 0, .int 0, .int (nI n0)])), (q0, .inl (T 3, cm, .inl a0))]) sz) ([(u.1, .inr (10, [.ref u.2.1, .int 0, .int 0, .int 0])), (b0, .inr (11, [.ref q0, .int 0, .int 0, .int (nI n0)])), (q0, .inl (T 3, cm, .inl a0)), (u.2.1, .inl (T 3, n0, .inl u.2.2))] : va_W) t) (va_A ([(b0, .inr (11, [.ref q0, .int 0, .int 0, .int (nI n0)])), (q0, .inl (T 3, cm, .inl a0))]) sz)) 2 802 (va_A ([(b0, .inr (11, [.ref q0, .int 0, .int 0, .int (nI n0)])), (q0, .inl (T 3, cm, .inl a0))]) sz) := by
  refine metJr (ty := (.object "java/lang/String")) (wu := fun (u : Nat × Nat × (Nat → Int32)) => ([(u.1, .inr (10, [.ref u.2.1, .int 0, .int 0, .int 0])), (b0, .inr (11, [.ref q0, .int 0, .int 0, .int (nI n0)])), (q0, .inl (T 3, cm, .inl a0)), (u.2.1, .inl (T 3, n0, .inl u.2.2))] : va_W)) (ru := fun (u : Nat × Nat × (Nat → Int32)) => u.1) (cc := cJ4_toString_0e30d) (maxL := 1) (by decide) rfl (Or.inl ⟨_, rfl⟩) (Nat.le_of_ble_eq_true rfl) ?_
  intro p e s m args below meth c Q ls A hx hb hml hown hts hX hP hK hD hA hS hl hret
  have hown : s.vm.findClass RJ4 = some m.cls := hown
  have hl : lv_has ls 1 [(0, .ref (b0))] := hl
  have iRJ0 : ∀ w ∈ wsJ00, w ∈ vtJ4_toString_0e30d := fun w hw => List.mem_cons_of_mem _ ((g_RJ0 w hw).1)
  have kmw_165 := hts (Cond.initialized RJ0) (List.mem_cons_of_mem _ (gJ_of mw_165 rfl))
  have kmw_642 := hts (Cond.classLink RJ4 18 RJ0) (List.mem_cons_of_mem _ (gJ_of mw_642 rfl))
  have kmw_643 := hts (Cond.instantiable RJ0 4) (List.mem_cons_of_mem _ (gJ_of mw_643 rfl))
  have kmw_644 := hts (Cond.methodLink RJ4 137 yJ0_init_81219) (List.mem_cons_of_mem _ (gJ_of mw_644 rfl))
  have kmw_645 := hts (Cond.instanceMethod yJ0_init_81219) (List.mem_cons_of_mem _ (gJ_of mw_645 rfl))
  have hgo : ∀ (H : Heap) (locs : List Loc), va_P D vwCl ([(b0, .inr (11, [.ref q0, .int 0, .int 0, .int (nI n0)])), (q0, .inl (T 3, cm, .inl a0))]) H → va_S A s.heap H locs → W p l e ({ frames := 5, cells := 2, slots := 802, locals := 151 } : Room) s m args below meth c H locs (0) (0) Q (F0 m 0 ls []) := by
    intro H locs hP hS
    refine va_new (ci := 10) (fs := [.null, .int 0, .int 0, .int 0]) (C := RJ0) (T := TJ0) (N := 4) hx hb hts iRJ0 tyJ0 tyJ0_ok hown kmw_642 kmw_643 kmw_165 hK hP hD hS hA rfl (fun j hj => by rcases (show j = 0 ∨ j = 1 ∨ j = 2 ∨ j = 3 by omega) with rfl | rfl | rfl | rfl <;> rfl) (by show _ ≤ 2; omega) (by show _ ≤ 802; omega) dJ4_toString_0e30d_0 (fun r9 H hP hD hS => ?_)
    obtain ⟨hP, hD⟩ := wFront hP hD
    have hP : va_P D vwCl ([(r9, .inr (10, [.null, .int 0, .int 0, .int 0])), (b0, .inr (11, [.ref q0, .int 0, .int 0, .int (nI n0)])), (q0, .inl (T 3, cm, .inl a0))]) H := hP
    have hD : va_D A ([(r9, .inr (10, [.null, .int 0, .int 0, .int 0])), (b0, .inr (11, [.ref q0, .int 0, .int 0, .int (nI n0)])), (q0, .inl (T 3, cm, .inl a0))]) := hD
    refine lv_dup hx hb dJ4_toString_0e30d_3 rfl ?_
    refine lv_aload_n hx hb dJ4_toString_0e30d_4 rfl (lv_at hl 0 rfl) ?_
    have hF0 : Foc [(r9, .inr (10, [.null, .int 0, .int 0, .int 0])), (b0, .inr (11, [.ref q0, .int 0, .int 0, .int (nI n0)])), (q0, .inl (T 3, cm, .inl a0))] [(r9, .inr (10, [.null, .int 0, .int 0, .int 0])), (b0, .inr (11, [.ref q0, .int 0, .int 0, .int (nI n0)])), (q0, .inl (T 3, cm, .inl a0))] [(r9, .inr (10, [.null, .int 0, .int 0, .int 0])), (b0, .inr (11, [.ref q0, .int 0, .int 0, .int (nI n0)])), (q0, .inl (T 3, cm, .inl a0))] [(r9, .inr (10, [.null, .int 0, .int 0, .int 0])), (b0, .inr (11, [.ref q0, .int 0, .int 0, .int (nI n0)])), (q0, .inl (T 3, cm, .inl a0))] := Foc.rfl _ _
    refine jtv (S := Nat × (Nat → Int32)) (ws1 := fun u => ([(r9, .inr (10, [.ref u.1, .int 0, .int 0, .int 0])), (b0, .inr (11, [.ref q0, .int 0, .int 0, .int (nI n0)])), (q0, .inl (T 3, cm, .inl a0)), (u.1, .inl (T 3, n0, .inl u.2))] : va_W)) (wc1 := fun u => ([(r9, .inr (10, [.ref u.1, .int 0, .int 0, .int 0])), (b0, .inr (11, [.ref q0, .int 0, .int 0, .int (nI n0)])), (q0, .inl (T 3, cm, .inl a0)), (u.1, .inl (T 3, n0, .inl u.2))] : va_W)) (va_runI (b := r9) (As := [.ref (b0)]) (rest := [.ref (r9)]) ⟨hx, hb, hml, hown, hts⟩ (c_J0_init_81219 l D T x r9 b0 q0 cm n0 a0 hm hn hf _) (cwI 1 hts (gCJ gw_vtJ0_init_81219) rfl rfl rfl kmw_165 kmw_644 kmw_645 rfl (by decide +kernel) ⟨Nat.le_of_ble_eq_true rfl, Nat.le_of_ble_eq_true rfl⟩) ⟨JP.blind _ _ _ _ _ _, jpre (As := [.ref (r9), .ref (b0)]) hF0 hX hK hP hD hS hA⟩ rfl rfl hl.1 rfl (lv_room (m := m) (pc := 5) (ls := ls) (rest := [.ref (b0), .ref (r9), .ref (r9)]) (st := [.ref (r9)]) (Nat.le_of_ble_eq_true rfl)) dJ4_toString_0e30d_5 ⟨by show _ ≤ 2; omega, by show _ ≤ 802; omega⟩) (fun u => Foc.rfl _ _) (hF0) hP hD hS hA (fun u H locs hr hP hD hS => ?_)
    obtain ⟨q9, a9⟩ := u
    have hP : va_P D vwCl ([(r9, .inr (10, [.ref q9, .int 0, .int 0, .int 0])), (b0, .inr (11, [.ref q0, .int 0, .int 0, .int (nI n0)])), (q0, .inl (T 3, cm, .inl a0)), (q9, .inl (T 3, n0, .inl a9))]) H := hP
    have hD : va_D A ([(r9, .inr (10, [.ref q9, .int 0, .int 0, .int 0])), (b0, .inr (11, [.ref q0, .int 0, .int 0, .int (nI n0)])), (q0, .inl (T 3, cm, .inl a0)), (q9, .inl (T 3, n0, .inl a9))]) := hD
    exact hret _ _ _ _ _ _ (r9, q9, a9) dJ4_toString_0e30d_8 (hr) hP hD hS (by omega) (by omega)
  exact hgo _ _ hP hS
