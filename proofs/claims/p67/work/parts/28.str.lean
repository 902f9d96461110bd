/-! strings that never change; the JDK's own length and charAt over them -/
def nA : Nat → Prop := fun _ => False
def STF (a t N : Nat) (w : Nat → Int32) (A : Nat → Prop) (U : State) (H : Heap) : Prop :=
  va_O "java/lang/String" a A U H ∧ va_OF "java/lang/String" "coder" "B" (.int 0) a A U H ∧ va_OF "java/lang/String" "value" "[B" (.ref t) a A U H ∧ va_T .byte t N (fun j => .int (w j)) A U H ∧
  va_Z "java/lang/String" "COMPACT_STRINGS" "Z" (.int 1) A U H ∧ va_Zq "jdk/internal/util/Preconditions" "SIOOBE_FORMATTER" "Ljava/util/function/BiFunction;" A U H
theorem STF.moved {a t N : Nat} {w : Nat → Int32} {A : Nat → Prop} {u U : State} {H : Heap} (hvm : u.vm.Alike U.vm) (h : STF a t N w A u H) : STF a t N w A U H :=
  ⟨va_O.moved hvm h.1, va_OF.moved hvm h.2.1, va_OF.moved hvm h.2.2.1, va_T.moved hvm h.2.2.2.1, va_Z.moved hvm h.2.2.2.2.1, va_Zq.moved hvm h.2.2.2.2.2⟩
theorem STF.kept {a t N : Nat} {w : Nat → Int32} {A : Nat → Prop} {U : State} {H H1 : Heap} (h : STF a t N w A U H) (hq : ∀ a : Nat, a < H.size → ¬ A a → H1[a]? = H[a]?) : STF a t N w A U H1 :=
  ⟨h.1.kept hq, h.2.1.kept hq, h.2.2.1.kept hq, h.2.2.2.1.kept hq, h.2.2.2.2.1.kept hq, h.2.2.2.2.2.kept hq⟩
theorem STF.narrow {a t N : Nat} {w : Nat → Int32} {A B : Nat → Prop} {U : State} {H : Heap} (h : STF a t N w A U H) (hAB : ∀ q, B q → A q) : STF a t N w B U H :=
  ⟨h.1.narrow hAB, h.2.1.narrow hAB, h.2.2.1.narrow hAB, h.2.2.2.1.narrow hAB, h.2.2.2.2.1.narrow hAB, h.2.2.2.2.2.narrow hAB⟩
/-- a condition on the tables and the heap alone -/
def Bl (B : State → Prop) : Prop := ∀ u U : State, u.heap = U.heap → u.vm.Alike U.vm → B u → B U
theorem Bl.blind {B : State → Prop} (h : Bl B) (as : List Value) : FrameBlind (va_Pc as B) := fun a U g mk q => ⟨q.1, h U (U.calling g mk a) rfl (Vm.Alike.refl U.vm) q.2⟩
theorem STF.bl (a t N : Nat) (w : Nat → Int32) (A : Nat → Prop) : Bl (fun U => STF a t N w A U U.heap) := fun u U e hv h => by
  show STF a t N w A U U.heap
  rw [← e]; exact STF.moved hv h
theorem Zq.bl (C n d : String) (A : Nat → Prop) : Bl (fun U => va_Zq C n d A U U.heap) := fun u U e hv h => by
  show va_Zq C n d A U U.heap
  rw [← e]; exact va_Zq.moved hv h
def QcVoid : Array Value → State → Outcome → State → Prop := fun _ st o t => o = .returned none ∧ t.heap = st.heap
section JM
variable {l : Launch} {y : MethodName} {ws ws' : List Cond} {rm : Room} {as : List Value} {cc : ByteArray} {maxL : Nat} {ty : FieldType} {B : State → Prop}
theorem metB {r : Int32} (hy : plainName y.cls = true) (hw : ws = Cond.code y cc maxL (some ty) :: ws') (hn : narrow ty (.int r) = .int r) (hlen : (lg_sl as).length ≤ maxL)
    (body : ∀ (p : Program) (e : Env) (s : State) (m : MethodId) (args : Array Value) (below : List Frame) (meth : Method) (c : Code) (Q : State → Prop) (ls : Array Slot), p.tables.exec = Jvm.exec → c.code = cc → c.maxLocals = maxL → s.vm.findClass y.cls = some m.cls → (∀ q ∈ ws, q.before args s = true) → B s → lv_has ls maxL (lv_args 0 as) →
      (∀ (ls : Array Slot) (pc : Nat), decode cc pc = .ok (.ireturn, 1) → W p l e rm s m args below meth c s.heap [] 0 0 Q (F0 m pc ls [.int r])) →
      W p l e rm s m args below meth c s.heap [] 0 0 Q (F0 m 0 ls [])) : Met l y ws rm (va_Pc as B) (QcRead r) 0 0 (fun _ => False) := by
  refine Met.ofW (cc := cc) (maxL := maxL) (ret := some ty) hy hw ?_
  intro p e s m args below meth c s₁ B hml hv
  obtain ⟨rfl, hB⟩ := hv
  have hts := atoms_spec (ws := ws) B.pre
  have hown : s.vm.findClass y.cls = some m.cls := findClass_of_methodNamed B.named
  have hlocks := B.notSynchronized
  have hl := lv_entry as (n := maxL) hlen
  rw [lg_entry_eq]
  refine body p e s m _ below meth c _ _ B.exec B.bytes hml hown hts hB hl (fun ls pc hd => ?_)
  exact W.zret B.exec B.bytes B.returns hn (fun t ht hW => ⟨rfl, ht⟩) (fun q hq => by cases hq) hd
theorem metBv (hy : plainName y.cls = true) (hw : ws = Cond.code y cc maxL none :: ws') (hlen : (lg_sl as).length ≤ maxL)
    (body : ∀ (p : Program) (e : Env) (s : State) (m : MethodId) (args : Array Value) (below : List Frame) (meth : Method) (c : Code) (Q : State → Prop) (ls : Array Slot), p.tables.exec = Jvm.exec → c.code = cc → c.maxLocals = maxL → s.vm.findClass y.cls = some m.cls → (∀ q ∈ ws, q.before args s = true) → B s → lv_has ls maxL (lv_args 0 as) →
      (∀ (ls : Array Slot) (pc : Nat), decode cc pc = .ok (.return_, 1) → W p l e rm s m args below meth c s.heap [] 0 0 Q (F0 m pc ls [])) →
      W p l e rm s m args below meth c s.heap [] 0 0 Q (F0 m 0 ls [])) : Met l y ws rm (va_Pc as B) QcVoid 0 0 (fun _ => False) := by
  refine Met.ofW (cc := cc) (maxL := maxL) (ret := none) hy hw ?_
  intro p e s m args below meth c s₁ B hml hv
  obtain ⟨rfl, hB⟩ := hv
  have hts := atoms_spec (ws := ws) B.pre
  have hown : s.vm.findClass y.cls = some m.cls := findClass_of_methodNamed B.named
  have hlocks := B.notSynchronized
  have hl := lv_entry as (n := maxL) hlen
  rw [lg_entry_eq]
  refine body p e s m _ below meth c _ _ B.exec B.bytes hml hown hts hB hl (fun ls pc hd => ?_)
  exact W.vret B.exec B.bytes B.returns (fun t ht hW => ⟨rfl, ht⟩) (fun q hq => by cases hq) hd
end JM
section JC
variable {p : Program} {l : Launch} {e : Env} {R : Room} {s : State} {m : MethodId} {args : Array Value} {below : List Frame} {meth : Method} {c : Code} {H : Heap} {locs : List Loc} {cells slots : Nat} {Q : State → Prop}
  {Ts wsy : List Cond} {cc bytes : ByteArray} {nL maxL index n pc : Nat} {own C : String} {y : MethodName} {ret : Option FieldType} {rm : Room} {b : Addr} {As rest st : List Value} {ls : Array Slot} {B : State → Prop}
theorem rdBV {r : Int32} (hbl : Bl B) (S : CallFix p m c cc nL s args Ts own) (hM : Met l y wsy rm (va_Pc (.ref b :: As) B) (QcRead r) 0 0 (fun _ => False)) (cw : CallW R s args own C index y bytes maxL ret wsy rm 0 0 n) (hB : ∀ U : State, U.heap = H → s.vm.Alike U.vm → B U)
    (hr : ∃ cell : Cell, H[b]? = some cell ∧ cell.vm.isStatics = false ∧ s.vm.findClass C = some cell.cls) (hn : As.length = n) (hsize : ls.size = nL) (hst : st = As.reverse ++ .ref b :: rest) (hW : (rest.map fun v => v.category).sum ≤ 8) (hcs : cells + 0 ≤ R.cells ∧ slots + 0 ≤ R.slots) (hdg : decode cc pc = .ok (.invokevirtual index, 3))
    (kk : W p l e R s m args below meth c H locs cells slots Q (F0 m (pc + 3) ls (.int r :: rest))) : W p l e R s m args below meth c H locs cells slots Q (F0 m pc ls st) :=
  W.callR (W.runV S hM cw ⟨hbl.blind _, hr, fun U hU hW => ⟨rfl, hB U hU hW.alike⟩⟩ rfl hn hsize hst (lv_room hW) hdg hcs) kk
theorem rdBS {r : Int32} (hbl : Bl B) (S : CallFix p m c cc nL s args Ts own) (hM : Met l y wsy rm (va_Pc As B) (QcRead r) 0 0 (fun _ => False)) (cw : CallB R s args own index y bytes maxL ret wsy rm 0 0 n ∧ (Cond.static y).before args s = true) (hB : ∀ U : State, U.heap = H → s.vm.Alike U.vm → B U)
    (hn : As.length = n) (hsize : ls.size = nL) (hst : st = As.reverse ++ rest) (hW : (rest.map fun v => v.category).sum ≤ 8) (hcs : cells + 0 ≤ R.cells ∧ slots + 0 ≤ R.slots) (hdg : decode cc pc = .ok (.invokestatic index, 3))
    (kk : W p l e R s m args below meth c H locs cells slots Q (F0 m (pc + 3) ls (.int r :: rest))) : W p l e R s m args below meth c H locs cells slots Q (F0 m pc ls st) :=
  W.callR (W.runS S hM cw ⟨hbl.blind _, fun U hU hW => ⟨rfl, hB U hU hW.alike⟩⟩ rfl hn hsize hst (lv_room hW) hdg hcs) kk
theorem rdBSv (hbl : Bl B) (S : CallFix p m c cc nL s args Ts own) (hM : Met l y wsy rm (va_Pc As B) QcVoid 0 0 (fun _ => False)) (cw : CallB R s args own index y bytes maxL ret wsy rm 0 0 n ∧ (Cond.static y).before args s = true) (hB : ∀ U : State, U.heap = H → s.vm.Alike U.vm → B U)
    (hn : As.length = n) (hsize : ls.size = nL) (hst : st = As.reverse ++ rest) (hW : (rest.map fun v => v.category).sum ≤ 8) (hcs : cells + 0 ≤ R.cells ∧ slots + 0 ≤ R.slots) (hdg : decode cc pc = .ok (.invokestatic index, 3))
    (kk : W p l e R s m args below meth c H locs cells slots Q (F0 m (pc + 3) ls rest)) : W p l e R s m args below meth c H locs cells slots Q (F0 m pc ls st) := by
  intro T hT X
  obtain ⟨v, st₀, t, T', L, h0, X', hL, e1, e2, ⟨hv, hh⟩, st9⟩ := va_runS (H := H) (locs := locs) (cells := cells) (slots := slots) (g := F0 m pc ls st) S hM cw ⟨hbl.blind _, fun U hU hW => ⟨rfl, hB U hU hW.alike⟩⟩ rfl hn hsize hst (lv_room hW) hdg hcs T hT X
  cases hv
  have hLn : L = [] := by
    cases L with
    | nil => rfl
    | cons a t => exact (hL a List.mem_cons_self).elim
  subst hLn
  rw [List.append_nil] at X'
  obtain ⟨t2, a1, b1⟩ := kk T' (by rw [e1, hh, h0]) X'
  exact ⟨t2, st9 t2 a1, b1⟩
end JC
theorem c_J3_checkIndex_8e157 (l : Launch) (i n : Int32) (q : Value) (hq : q = .null ∨ ∃ t : Nat, q = .ref t) (h0 : ¬ i < 0) (h1 : i < n) : Met l yJ3_checkIndex_8e157 wsJ3_checkIndex_8e157 ({ frames := 0, cells := 0, slots := 0, locals := 0 } : Room) (va_Pc [.int i, .int n, q] (fun _ => True)) (QcRead i) 0 0 (fun _ => False) := by
  rcases hq with rfl | ⟨t, rfl⟩
  all_goals
    refine metB (cc := cJ3_checkIndex_8e157) (maxL := 3) (ty := .int) (by decide) rfl rfl (Nat.le_of_ble_eq_true rfl) ?_
    intro p e s m args below meth c Q ls hx hb hml hown hts hB hl hret
    refine lv_iload_n hx hb dJ3_checkIndex_8e157_0 rfl (lv_at hl 0 rfl) ?_
    refine lv_if_lt (tgt := 9) hx hb dJ3_checkIndex_8e157_1 (by decide) (fun c1 => absurd c1 h0) (fun _ => ?_)
    refine lv_iload_n hx hb dJ3_checkIndex_8e157_4 rfl (lv_at hl 0 rfl) ?_
    refine lv_iload_n hx hb dJ3_checkIndex_8e157_5 rfl (lv_at hl 1 rfl) ?_
    refine lv_icmp_lt (tgt := 16) hx hb dJ3_checkIndex_8e157_6 (by decide) (fun _ => ?_) (fun c6 => absurd h1 c6)
    refine lv_iload_n hx hb dJ3_checkIndex_8e157_16 rfl (lv_at hl 0 rfl) ?_
    exact hret ls _ dJ3_checkIndex_8e157_17
theorem c_J0_checkIndex_df160 (l : Launch) (i n : Int32) (h0 : ¬ i < 0) (h1 : i < n) : Met l yJ0_checkIndex_df160 wsJ0_checkIndex_df160 ({ frames := 1, cells := 0, slots := 0, locals := 22 } : Room) (va_Pc [.int i, .int n] (fun U => va_Zq "jdk/internal/util/Preconditions" "SIOOBE_FORMATTER" "Ljava/util/function/BiFunction;" nA U U.heap)) QcVoid 0 0 (fun _ => False) := by
  refine metBv (cc := cJ0_checkIndex_df160) (maxL := 2) (by decide) rfl (Nat.le_of_ble_eq_true rfl) ?_
  intro p e s m args below meth c Q ls hx hb hml hown hts hB hl hret
  have hown : s.vm.findClass RJ0 = some m.cls := hown
  refine lv_iload_n hx hb dJ0_checkIndex_df160_0 rfl (lv_at hl 0 rfl) ?_
  refine lv_iload_n hx hb dJ0_checkIndex_df160_1 rfl (lv_at hl 1 rfl) ?_
  obtain ⟨q, hq, hZ⟩ : ∃ q : Value, (q = .null ∨ ∃ t : Nat, q = .ref t) ∧ va_Z "jdk/internal/util/Preconditions" "SIOOBE_FORMATTER" "Ljava/util/function/BiFunction;" q nA s s.heap := by
    rcases hB with h | ⟨t, h⟩
    · exact ⟨_, Or.inl rfl, h⟩
    · exact ⟨_, Or.inr ⟨t, rfl⟩, h⟩
  have hq1 : q.category = 1 := by rcases hq with rfl | ⟨t, rfl⟩ <;> rfl
  refine va_gets hx hb hZ va_S.rf hown (hts (.fieldLink RJ0 1053 "jdk/internal/util/Preconditions" "SIOOBE_FORMATTER" "Ljava/util/function/BiFunction;") (List.mem_of_getElem? (i := 1) rfl)) (fun _ h9 => h9) dJ0_checkIndex_df160_2 ?_
  refine rdBS (As := [.int i, .int n, q]) (rest := []) (B := fun _ => True) (fun _ _ _ _ _ => trivial) ⟨hx, hb, hml, hown, hts⟩ (c_J3_checkIndex_8e157 l i n q hq h0 h1) (va_cwS 3 hts gJ0_checkIndex_df160_J3_checkIndex_8e157 rfl rfl rfl (by decide +kernel) ⟨Nat.le_of_ble_eq_true rfl, Nat.le_of_ble_eq_true rfl⟩) (fun _ _ _ => trivial) rfl hl.1 rfl (Nat.le_of_ble_eq_true rfl) ⟨Nat.zero_le _, Nat.zero_le _⟩ dJ0_checkIndex_df160_5 ?_
  refine lv_pop hx hb dJ0_checkIndex_df160_8 rfl ?_
  exact hret ls _ dJ0_checkIndex_df160_9
theorem c_J0_coder_7d493 (l : Launch) (a t N : Nat) (w : Nat → Int32) : Met l yJ0_coder_7d493 wsJ0_coder_7d493 ({ frames := 0, cells := 0, slots := 0, locals := 0 } : Room) (va_Pc [.ref a] (fun U => STF a t N w nA U U.heap)) (QcRead 0) 0 0 (fun _ => False) := by
  refine metB (cc := cJ0_coder_7d493) (maxL := 1) (ty := .byte) (by decide) rfl rfl (Nat.le_of_ble_eq_true rfl) ?_
  intro p e s m args below meth c Q ls hx hb hml hown hts hB hl hret
  have hown : s.vm.findClass RJ0 = some m.cls := hown
  obtain ⟨h1, h2, h3, h4, h5, h6⟩ := hB
  refine va_gets hx hb h5 va_S.rf hown (hts (.fieldLink RJ0 38 "java/lang/String" "COMPACT_STRINGS" "Z") (List.mem_of_getElem? (i := 1) rfl)) (fun _ h9 => h9) dJ0_coder_7d493_0 ?_
  refine lv_if_eq (tgt := 13) hx hb dJ0_coder_7d493_3 (by decide) (fun c3 => absurd c3 (by decide)) (fun _ => ?_)
  refine lv_aload_n hx hb dJ0_coder_7d493_6 rfl (lv_at hl 0 rfl) ?_
  refine vk_getf hx hb h2 va_S.rf hown (hts (.fieldLink RJ0 15 "java/lang/String" "coder" "B") (List.mem_of_getElem? (i := 2) rfl)) (fun _ h9 => h9) dJ0_coder_7d493_7 ?_
  refine lv_goto (tgt := 14) hx hb dJ0_coder_7d493_10 (by decide) ?_
  exact hret ls _ dJ0_coder_7d493_14
theorem c_J0_isLatin1_aae02 (l : Launch) (a t N : Nat) (w : Nat → Int32) : Met l yJ0_isLatin1_aae02 wsJ0_isLatin1_aae02 ({ frames := 0, cells := 0, slots := 0, locals := 0 } : Room) (va_Pc [.ref a] (fun U => STF a t N w nA U U.heap)) (QcRead 1) 0 0 (fun _ => False) := by
  refine metB (cc := cJ0_isLatin1_aae02) (maxL := 1) (ty := .boolean) (by decide) rfl rfl (Nat.le_of_ble_eq_true rfl) ?_
  intro p e s m args below meth c Q ls hx hb hml hown hts hB hl hret
  have hown : s.vm.findClass RJ0 = some m.cls := hown
  obtain ⟨h1, h2, h3, h4, h5, h6⟩ := hB
  refine va_gets hx hb h5 va_S.rf hown (hts (.fieldLink RJ0 38 "java/lang/String" "COMPACT_STRINGS" "Z") (List.mem_of_getElem? (i := 1) rfl)) (fun _ h9 => h9) dJ0_isLatin1_aae02_0 ?_
  refine lv_if_eq (tgt := 17) hx hb dJ0_isLatin1_aae02_3 (by decide) (fun c3 => absurd c3 (by decide)) (fun _ => ?_)
  refine lv_aload_n hx hb dJ0_isLatin1_aae02_6 rfl (lv_at hl 0 rfl) ?_
  refine vk_getf hx hb h2 va_S.rf hown (hts (.fieldLink RJ0 15 "java/lang/String" "coder" "B") (List.mem_of_getElem? (i := 2) rfl)) (fun _ h9 => h9) dJ0_isLatin1_aae02_7 ?_
  refine lv_if_ne (tgt := 17) hx hb dJ0_isLatin1_aae02_10 (by decide) (fun c3 => absurd rfl c3) (fun _ => ?_)
  refine lv_iconst (v := 1) hx hb dJ0_isLatin1_aae02_13 (by decide) ?_
  refine lv_goto (tgt := 18) hx hb dJ0_isLatin1_aae02_14 (by decide) ?_
  exact hret ls _ dJ0_isLatin1_aae02_18
theorem c_J0_length_8abf5 (l : Launch) (a t N : Nat) (w : Nat → Int32) : Met l yJ0_length_8abf5 wsJ0_length_8abf5 ({ frames := 1, cells := 0, slots := 0, locals := 20 } : Room) (va_Pc [.ref a] (fun U => STF a t N w nA U U.heap)) (QcRead (nI N)) 0 0 (fun _ => False) := by
  refine metB (cc := cJ0_length_8abf5) (maxL := 1) (ty := .int) (by decide) rfl rfl (Nat.le_of_ble_eq_true rfl) ?_
  intro p e s m args below meth c Q ls hx hb hml hown hts hB hl hret
  have hown : s.vm.findClass RJ0 = some m.cls := hown
  obtain ⟨h1, h2, h3, h4, h5, h6⟩ := id hB
  refine lv_aload_n hx hb dJ0_length_8abf5_0 rfl (lv_at hl 0 rfl) ?_
  refine vk_getf hx hb h3 va_S.rf hown (hts (.fieldLink RJ0 9 "java/lang/String" "value" "[B") (List.mem_of_getElem? (i := 1) rfl)) (fun _ h9 => h9) dJ0_length_8abf5_1 ?_
  refine va_tlen (v := nI N) hx hb h4 va_S.rf rfl dJ0_length_8abf5_4 ?_
  refine lv_aload_n hx hb dJ0_length_8abf5_5 rfl (lv_at hl 0 rfl) ?_
  refine rdBV (C := RJ0) (As := []) (rest := [.int (nI N)]) (STF.bl a t N w nA) ⟨hx, hb, hml, hown, hts⟩ (c_J0_coder_7d493 l a t N w) (cwV 0 hts gJ0_length_8abf5_J0_coder_7d493 rfl rfl rfl (by decide +kernel) ⟨Nat.le_of_ble_eq_true rfl, Nat.le_of_ble_eq_true rfl⟩) (fun U hU hv => by rw [hU]; exact hB.moved hv) (by obtain ⟨cell, g1, g2, g3, -⟩ := h1; exact ⟨cell, g1, g2, g3⟩) rfl hl.1 rfl (Nat.le_of_ble_eq_true rfl) ⟨Nat.zero_le _, Nat.zero_le _⟩ dJ0_length_8abf5_6 ?_
  refine lv_ishr hx hb dJ0_length_8abf5_9 ?_
  refine endI (r := nI N) (by simp) ?_
  exact hret ls _ dJ0_length_8abf5_10
theorem c_J1_charAt_3b067 (l : Launch) (a t N : Nat) (w : Nat → Int32) (k : Nat) (hk : k < N) (hN : N < 2 ^ 31) (hw : ∃ z, z < 128 ∧ w k = nI z) : Met l yJ1_charAt_3b067 wsJ1_charAt_3b067 ({ frames := 2, cells := 0, slots := 0, locals := 43 } : Room) (va_Pc [.ref t, .int (nI k)] (fun U => STF a t N w nA U U.heap)) (QcRead (w k)) 0 0 (fun _ => False) := by
  obtain ⟨z, hz, hz2⟩ := hw
  have hn : narrow .char (.int (w k)) = .int (w k) := by
    rw [hz2]
    have : ∀ z, z < 128 → narrow .char (.int (nI z)) = .int (nI z) := by decide +kernel
    exact this z hz
  refine metB (cc := cJ1_charAt_3b067) (maxL := 2) (ty := .char) (by decide) rfl hn (Nat.le_of_ble_eq_true rfl) ?_
  intro p e s m args below meth c Q ls hx hb hml hown hts hB hl hret
  have hown : s.vm.findClass RJ1 = some m.cls := hown
  obtain ⟨h1, h2, h3, h4, h5, h6⟩ := id hB
  refine lv_iload_n hx hb dJ1_charAt_3b067_0 rfl (lv_at hl 1 rfl) ?_
  refine lv_aload_n hx hb dJ1_charAt_3b067_1 rfl (lv_at hl 0 rfl) ?_
  refine va_tlen (v := nI N) hx hb h4 va_S.rf rfl dJ1_charAt_3b067_2 ?_
  refine rdBSv (As := [.int (nI k), .int (nI N)]) (rest := []) (Zq.bl _ _ _ nA) ⟨hx, hb, hml, hown, hts⟩ (c_J0_checkIndex_df160 l (nI k) (nI N) (nI_pos (by omega)) (nI_lt hk hN)) (va_cwS 2 hts gJ1_charAt_3b067_J0_checkIndex_df160 rfl rfl rfl (by decide +kernel) ⟨Nat.le_of_ble_eq_true rfl, Nat.le_of_ble_eq_true rfl⟩) (fun U hU hv => by rw [hU]; exact h6.moved hv) rfl hl.1 rfl (Nat.le_of_ble_eq_true rfl) ⟨Nat.zero_le _, Nat.zero_le _⟩ dJ1_charAt_3b067_3 ?_
  refine lv_aload_n hx hb dJ1_charAt_3b067_6 rfl (lv_at hl 0 rfl) ?_
  refine lv_iload_n hx hb dJ1_charAt_3b067_7 rfl (lv_at hl 1 rfl) ?_
  refine va_tb hx hb h4 va_S.rf (nI_in hk hN) (by rw [nI_clamp (by omega)]) dJ1_charAt_3b067_8 ?_
  refine lv_sipush (v := 255) hx hb dJ1_charAt_3b067_9 (by decide) ?_
  refine lv_iand hx hb dJ1_charAt_3b067_12 ?_
  refine lv_i2c (v := w k) hx hb dJ1_charAt_3b067_13 (by
    rw [hz2]
    have : ∀ z, z < 128 → ((nI z &&& 255).toUInt32 % 65536).toInt32 = nI z := by decide +kernel
    exact this z hz) ?_
  exact hret ls _ dJ1_charAt_3b067_14
theorem c_J0_charAt_5068e (l : Launch) (a t N : Nat) (w : Nat → Int32) (k : Nat) (hk : k < N) (hN : N < 2 ^ 31) (hw : ∃ z, z < 128 ∧ w k = nI z) : Met l yJ0_charAt_5068e wsJ0_charAt_5068e ({ frames := 3, cells := 0, slots := 0, locals := 64 } : Room) (va_Pc [.ref a, .int (nI k)] (fun U => STF a t N w nA U U.heap)) (QcRead (w k)) 0 0 (fun _ => False) := by
  have hn : narrow .char (.int (w k)) = .int (w k) := by
    obtain ⟨z, hz, hz2⟩ := hw
    rw [hz2]
    have : ∀ z, z < 128 → narrow .char (.int (nI z)) = .int (nI z) := by decide +kernel
    exact this z hz
  refine metB (cc := cJ0_charAt_5068e) (maxL := 2) (ty := .char) (by decide) rfl hn (Nat.le_of_ble_eq_true rfl) ?_
  intro p e s m args below meth c Q ls hx hb hml hown hts hB hl hret
  have hown : s.vm.findClass RJ0 = some m.cls := hown
  obtain ⟨h1, h2, h3, h4, h5, h6⟩ := id hB
  refine lv_aload_n hx hb dJ0_charAt_5068e_0 rfl (lv_at hl 0 rfl) ?_
  refine rdBV (C := RJ0) (As := []) (rest := []) (STF.bl a t N w nA) ⟨hx, hb, hml, hown, hts⟩ (c_J0_isLatin1_aae02 l a t N w) (cwV 0 hts gJ0_charAt_5068e_J0_isLatin1_aae02 rfl rfl rfl (by decide +kernel) ⟨Nat.le_of_ble_eq_true rfl, Nat.le_of_ble_eq_true rfl⟩) (fun U hU hv => by rw [hU]; exact hB.moved hv) (by obtain ⟨cell, g1, g2, g3, -⟩ := h1; exact ⟨cell, g1, g2, g3⟩) rfl hl.1 rfl (Nat.le_of_ble_eq_true rfl) ⟨Nat.zero_le _, Nat.zero_le _⟩ dJ0_charAt_5068e_1 ?_
  refine lv_if_eq (tgt := 16) hx hb dJ0_charAt_5068e_4 (by decide) (fun c3 => absurd c3 (by decide)) (fun _ => ?_)
  refine lv_aload_n hx hb dJ0_charAt_5068e_7 rfl (lv_at hl 0 rfl) ?_
  refine vk_getf hx hb h3 va_S.rf hown (hts (.fieldLink RJ0 9 "java/lang/String" "value" "[B") (by decide +kernel)) (fun _ h9 => h9) dJ0_charAt_5068e_8 ?_
  refine lv_iload_n hx hb dJ0_charAt_5068e_11 rfl (lv_at hl 1 rfl) ?_
  refine rdBS (As := [.ref t, .int (nI k)]) (rest := []) (STF.bl a t N w nA) ⟨hx, hb, hml, hown, hts⟩ (c_J1_charAt_3b067 l a t N w k hk hN hw) (va_cwS 2 hts gJ0_charAt_5068e_J1_charAt_3b067 rfl rfl rfl (by decide +kernel) ⟨Nat.le_of_ble_eq_true rfl, Nat.le_of_ble_eq_true rfl⟩) (fun U hU hv => by rw [hU]; exact hB.moved hv) rfl hl.1 rfl (Nat.le_of_ble_eq_true rfl) ⟨Nat.zero_le _, Nat.zero_le _⟩ dJ0_charAt_5068e_12 ?_
  exact hret ls _ dJ0_charAt_5068e_15
