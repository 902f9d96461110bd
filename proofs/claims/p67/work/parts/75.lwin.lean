/-! the text of a window -/
theorem and_lt (y : Int32) (k : Nat) (hk : k < 31) : ∃ n, n < 2 ^ k ∧ y &&& nI (2 ^ k - 1) = nI n := by
  refine ⟨y.toBitVec.toNat % 2 ^ k, Nat.mod_lt _ (Nat.two_pow_pos _), ?_⟩
  have e : y = nI y.toBitVec.toNat := by
    apply Int32.toBitVec_inj.mp
    show y.toBitVec = BitVec.ofNat 32 y.toBitVec.toNat
    simp
  have hlt : y.toBitVec.toNat < 2 ^ 32 := y.toBitVec.isLt
  have h9 := pk_andN (n := y.toBitVec.toNat) (by omega) k ((by decide +kernel : ∀ k, k < 31 → ((nI (2 ^ k - 1)).toBitVec.toNat = 2 ^ k - 1)) k hk)
  rw [← e] at h9
  exact h9
theorem and255 (y : Int32) : ∃ k, k < 256 ∧ y &&& 255 = nI k := and_lt y 8 (by decide)
theorem and3 (y : Int32) : ∃ k, k < 4 ∧ y &&& 3 = nI k := and_lt y 2 (by decide)
theorem rng {y : Int32} {d : Nat} (h0 : 0 < d) (hd : d < 2 ^ 31) : ∃ z, z < d ∧ (y &&& 255) - (y &&& 255) / nI d * nI d = nI z := by
  obtain ⟨k, hk, e⟩ := and255 y
  refine ⟨k % d, Nat.mod_lt _ h0, ?_⟩
  rw [e]
  exact pk_rem (a := k) (d := d) (by omega) h0 hd
def clT (cl : List Nat) : List Nat := cl.flatMap (fun z => 32 :: dgL z)
def ckT (ck : List (Nat × Nat)) : List Nat := ck.flatMap (fun z => jL 2 ++ (dgL z.1 ++ (32 :: (dgL z.2 ++ [59]))))
def cpT (cp : List (Nat × Nat × Nat)) : List Nat := cp.flatMap (fun z => jL 7 ++ (dgL z.1 ++ (32 :: (jL (3 + z.2.1) ++ (32 :: (dgL z.2.2 ++ [59]))))))
theorem clT_snoc {cl : List Nat} {z : Nat} : clT (cl ++ [z]) = clT cl ++ (32 :: dgL z) := by simp [clT]
theorem ckT_snoc {ck : List (Nat × Nat)} {z : Nat × Nat} : ckT (ck ++ [z]) = ckT ck ++ (jL 2 ++ (dgL z.1 ++ (32 :: (dgL z.2 ++ [59])))) := by simp [ckT]
theorem cpT_snoc {cp : List (Nat × Nat × Nat)} {z : Nat × Nat × Nat} : cpT (cp ++ [z]) = cpT cp ++ (jL 7 ++ (dgL z.1 ++ (32 :: (jL (3 + z.2.1) ++ (32 :: (dgL z.2.2 ++ [59])))))) := by simp [cpT]
def CPOK (cp : List (Nat × Nat × Nat)) : Prop := ∀ (k : Nat) (y : Nat × Nat × Nat), cp[k]? = some y → 5 * k ≤ y.1 ∧ y.1 ≤ 5 * k + 3 ∧ y.2.1 < 4 ∧ 1 ≤ y.2.2 ∧ y.2.2 ≤ 9
theorem CPOK.snoc {cp : List (Nat × Nat × Nat)} {p q r : Nat} (h : CPOK cp) (h1 : 5 * cp.length ≤ p) (h2 : p ≤ 5 * cp.length + 3) (h3 : q < 4) (h4 : 1 ≤ r) (h5 : r ≤ 9) : CPOK (cp ++ [(p, q, r)]) := by
  intro k y hy
  by_cases hk : k < cp.length
  · rw [List.getElem?_append_left hk] at hy; exact h k y hy
  · rw [List.getElem?_append_right (by omega)] at hy
    have e : k - cp.length = 0 := by
      cases h9 : k - cp.length with
      | zero => rfl
      | succ n => rw [h9] at hy; cases hy
    rw [e] at hy
    obtain rfl := Option.some.inj hy
    have ek : k = cp.length := by omega
    subst ek
    exact ⟨h1, h2, h3, h4, h5⟩
def TX (d1 d2 d3 : Nat) (cl : List Nat) (ck : List (Nat × Nat)) (cp : List (Nat × Nat × Nat)) : List Nat :=
  ((((((((((jL 0 ++ dgL d1) ++ [32]) ++ dgL d2) ++ [32]) ++ dgL d3) ++ jL 1) ++ clT cl) ++ [59]) ++ ckT ck) ++ cpT cp)
def WOK (d1 d2 d3 : Nat) (cl : List Nat) (ck : List (Nat × Nat)) (cp : List (Nat × Nat × Nat)) : Prop :=
  (1 ≤ d1 ∧ d1 ≤ 14) ∧ d2 ≤ 13 ∧ d3 ≤ 7 ∧ (1 ≤ cl.length ∧ cl.length ≤ 8 ∧ ∀ z ∈ cl, z ≤ 9) ∧ (ck.length ≤ 3 ∧ ∀ z ∈ ck, 1 ≤ z.1 ∧ z.1 ≤ 9 ∧ z.2 ≤ 99) ∧ cp.length ≤ 15 ∧ CPOK cp
def TXOK (L : List Nat) : Prop := ∃ d1 d2 d3 cl ck cp, WOK d1 d2 d3 cl ck cp ∧ L = TX d1 d2 d3 cl ck cp
theorem Foc.suf (w w1 x : va_W) : Foc (w ++ x) w (w1 ++ x) w1 := ⟨x, List.Perm.refl _, List.Perm.refl _⟩
theorem sbi_M {L M : List Nat} {a a' : Nat → Int32} (h : BL L a) (h1 : ∀ j, j < L.length → a' j = a j) (h2 : ∀ j, j < M.length → a' (L.length + j) = nI (M.getD j 0)) : BL (L ++ M) a' := by
  intro i hi
  rw [List.length_append] at hi
  by_cases h9 : i < L.length
  · rw [h1 i h9, h i h9, List.getD_eq_getElem?_getD, List.getD_eq_getElem?_getD, List.getElem?_append_left h9]
  · have h3 := h2 (i - L.length) (by omega)
    rw [show L.length + (i - L.length) = i by omega] at h3
    rw [h3, List.getD_eq_getElem?_getD, List.getD_eq_getElem?_getD, List.getElem?_append_right (by omega)]
theorem sb_one {c n : Nat} {a' : Nat → Int32} (h : a' n = nI c) : ∀ j, j < [c].length → a' (n + j) = nI ([c].getD j 0) := by
  intro j hj
  have hj : j < 1 := hj
  obtain rfl : j = 0 := by omega
  exact h
theorem dgN_2 (v : Nat) : dgN v ≤ 2 := by unfold dgN; split <;> omega
theorem jL_sort {z : Nat} (h : z < 4) : (jL (3 + z)).length ≤ 5 := by
  obtain rfl | rfl | rfl | rfl : z = 0 ∨ z = 1 ∨ z = 2 ∨ z = 3 := by omega
  all_goals decide
theorem arr_at (z : Nat) (h : z < 4) {x1 : Nat → Nat} : va_rf (va_up (va_up (va_up (va_up (fun _ => none) 0 (some (x1 3))) 1 (some (x1 4))) 2 (some (x1 5))) 3 (some (x1 6)) z) = .ref (x1 (3 + z)) := by
  obtain rfl | rfl | rfl | rfl : z = 0 ∨ z = 1 ∨ z = 2 ∨ z = 3 := by omega
  all_goals rfl
theorem str_asg {D : va_G} {T : Nat → ClassId} {s : State} (hK : va_K D vwCl (tyL T) s) : ∀ comp c0 : ClassId, s.vm.findClass "java/lang/String" = some comp → s.vm.findClass "java/lang/String" = some c0 → s.vm.assignable c0 comp = true := by
  intro comp c0 h1 h2
  have hcl := (hK.1 10 _ rfl).2
  cases h1.symm.trans h2
  cases hcl.1.symm.trans h1
  exact va_assign hcl
section NS
variable {p : Program} {l : Launch} {e : Env} {R : Room} {s : State} {m : MethodId} {args : Array Value} {below : List Frame} {meth : Method} {c : Code} {H H0 : Heap} {locs : List Loc} {cells slots : Nat} {Q : State → Prop} {cc : ByteArray} {pc : Nat} {ls : Array Slot} {rest : List Value} {D : va_G} {T : Nat → ClassId} {ws : va_W} {A : Nat → Prop} {own : String} {index : Nat}
theorem newS (hexec : p.tables.exec = Jvm.exec) (hb : c.code = cc) (hown : s.vm.findClass own = some m.cls) (hcl : (Cond.classLink own index RJ0).before args s = true) (hover : va_AO RJ0 s) (hK : va_K D vwCl (tyL T) s) (hP : va_P D vwCl ws H) (hD : va_D A ws) (hS : va_S A H0 H locs) (hA : ∀ q, H0.size ≤ q → A q)
    {n : Int32} {N' : Nat} (hn : ¬ n < 0) (hN : n.toNatClampNeg = N') (hbytes : N' * 4 ≤ 536870912) (hcells : cells + 1 ≤ R.cells) (hslots : slots + N' ≤ R.slots) (hdg : decode cc pc = .ok (.anewarray index, 3))
    (kk : ∀ (q : Nat) (H1 : Heap), va_P D vwCl (ws ++ [(q, .inl (T 4, N', .inr (.inr (.inr (.inr fun _ => none)))))]) H1 → va_D A (ws ++ [(q, .inl (T 4, N', .inr (.inr (.inr (.inr fun _ => none)))))]) → va_S A H0 H1 locs → W p l e R s m args below meth c H1 locs (cells + 1) (slots + N') Q (F0 m (pc + 3) ls (.ref q :: rest))) : W p l e R s m args below meth c H locs cells slots Q (F0 m pc ls (.int n :: rest)) := by
  refine va_newq hexec hb hown hcl hover hK hP hD hS hA hn hN hbytes hcells hslots hdg (fun q cA H1 hK1 hP1 hD1 hS1 => ?_)
  obtain ⟨_, _, -, -, -, h1⟩ := (hK1.2 5 _ rfl).2
  obtain ⟨_, _, -, -, -, h2⟩ := (hK.2 4 _ rfl).2
  obtain rfl : cA = T 4 := Option.some.inj (h1.symm.trans h2)
  exact kk q H1 hP1 hD1 hS1
end NS
def vtL_window : List Cond := Cond.code yL_window cL_window 6 (some (.object "java/lang/String")) :: gJ
theorem gw_vtL_window : GoodIn gJ vtL_window := gconJ (gJ_of mw_85 rfl) rfl gJ_self

theorem gj75V_RL_184_J4_append_bf812 : GoodIn gJ (wsV RL 184 RJ4 yJ4_append_bf812 vtJ4_append_bf812) := show GoodIn gJ ([Cond.methodLink RL 184 yJ4_append_bf812, Cond.instanceMethod yJ4_append_bf812, Cond.selects RJ4 yJ4_append_bf812 yJ4_append_bf812, Cond.initialized RJ4] ++ vtJ4_append_bf812) from goodIn_app (gconJ (gJ_of mw_1052 rfl) rfl (gconJ (gJ_of mw_1053 rfl) rfl (gconJ (gJ_of mw_1054 rfl) rfl (gconJ (gJ_of mw_572 rfl) rfl (gnilJ))))) gw_vtJ4_append_bf812
theorem gj75V_RL_187_J4_append_cf468 : GoodIn gJ (wsV RL 187 RJ4 yJ4_append_cf468 vtJ4_append_cf468) := show GoodIn gJ ([Cond.methodLink RL 187 yJ4_append_cf468, Cond.instanceMethod yJ4_append_cf468, Cond.selects RJ4 yJ4_append_cf468 yJ4_append_cf468, Cond.initialized RJ4] ++ vtJ4_append_cf468) from goodIn_app (gconJ (gJ_of mw_1055 rfl) rfl (gconJ (gJ_of mw_1056 rfl) rfl (gconJ (gJ_of mw_1057 rfl) rfl (gconJ (gJ_of mw_572 rfl) rfl (gnilJ))))) gw_vtJ4_append_cf468
theorem gj75V_RL_192_J4_append_15ec4 : GoodIn gJ (wsV RL 192 RJ4 yJ4_append_15ec4 vtJ4_append_15ec4) := show GoodIn gJ ([Cond.methodLink RL 192 yJ4_append_15ec4, Cond.instanceMethod yJ4_append_15ec4, Cond.selects RJ4 yJ4_append_15ec4 yJ4_append_15ec4, Cond.initialized RJ4] ++ vtJ4_append_15ec4) from goodIn_app (gconJ (gJ_of mw_1058 rfl) rfl (gconJ (gJ_of mw_570 rfl) rfl (gconJ (gJ_of mw_571 rfl) rfl (gconJ (gJ_of mw_572 rfl) rfl (gnilJ))))) gw_vtJ4_append_15ec4
theorem gj75V_RL_208_J4_toString_0e30d : GoodIn gJ (wsV RL 208 RJ4 yJ4_toString_0e30d vtJ4_toString_0e30d) := show GoodIn gJ ([Cond.methodLink RL 208 yJ4_toString_0e30d, Cond.instanceMethod yJ4_toString_0e30d, Cond.selects RJ4 yJ4_toString_0e30d yJ4_toString_0e30d, Cond.initialized RJ4] ++ vtJ4_toString_0e30d) from goodIn_app (gconJ (gJ_of mw_1059 rfl) rfl (gconJ (gJ_of mw_1060 rfl) rfl (gconJ (gJ_of mw_1061 rfl) rfl (gconJ (gJ_of mw_572 rfl) rfl (gnilJ))))) gw_vtJ4_toString_0e30d
set_option maxHeartbeats 4000000 in
set_option maxRecDepth 100000 in
theorem c_L_window (l : Launch) (D : va_G) (T : Nat → ClassId) (x : JV) (ww vv : Nat) (hww : ww < 2 ^ 31) (hvv : vv < 2 ^ 31) (sz : Nat) : Met l yL_window vtL_window ({ frames := 9, cells := 170, slots := 130000, locals := 214 } : Room) (va_Pc [.int (nI ww), .int (nI vv)] (JP D T x ([]) sz)) (va_Qr (fun (u : Nat × Nat × (Nat → Int32) × List Nat) => TXOK u.2.2.2 ∧ u.2.2.2.length ≤ 384 ∧ BL u.2.2.2 u.2.2.1 ∧ sb_Fit u.2.2.1) (fun u b9 t => b9 = (fun (u : Nat × Nat × (Nat → Int32) × List Nat) => u.1) u ∧ QS D T (va_A ([]) sz) ([(u.1, .inr (10, [.ref u.2.1, .int 0, .int 0, .int 0])), (u.2.1, .inl (T 3, u.2.2.2.length, .inl u.2.2.1))] : va_W) t) (va_A ([]) sz)) 170 130000 (va_A ([]) sz) := by
  refine metJr (ty := (.object "java/lang/String")) (wu := fun (u : Nat × Nat × (Nat → Int32) × List Nat) => ([(u.1, .inr (10, [.ref u.2.1, .int 0, .int 0, .int 0])), (u.2.1, .inl (T 3, u.2.2.2.length, .inl u.2.2.1))] : va_W)) (ru := fun (u : Nat × Nat × (Nat → Int32) × List Nat) => u.1) (cc := cL_window) (maxL := 6) (by decide) rfl (Or.inl ⟨_, rfl⟩) (Nat.le_of_ble_eq_true rfl) ?_
  intro p e s m args below meth c Q ls A hx hb hml hown hts hX hP hK hD hA hS hl hret
  have hown : s.vm.findClass RL = some m.cls := hown
  have hl : lv_has ls 6 [(0, .int (nI ww)), (1, .int (nI vv))] := hl
  have iRJ4 : ∀ w ∈ wsJ40, w ∈ vtL_window := fun w hw => List.mem_cons_of_mem _ ((g_RJ4 w hw).1)
  have kmw_1047 := hts (Cond.classLink RL 177 RJ4) (List.mem_cons_of_mem _ (gJ_of mw_1047 rfl))
  have kmw_1048 := hts (Cond.constant RL 195 (1103515245)) (List.mem_cons_of_mem _ (gJ_of mw_1048 rfl))
  have kmw_1049 := hts (Cond.classLink RL 166 RJ0) (List.mem_cons_of_mem _ (gJ_of mw_1049 rfl))
  have kmw_1050 := hts (Cond.methodLink RL 181 yJ4_init_a7421) (List.mem_cons_of_mem _ (gJ_of mw_1050 rfl))
  have kmw_1051 := hts (Cond.instanceMethod yJ4_init_a7421) (List.mem_cons_of_mem _ (gJ_of mw_1051 rfl))
  have kmw_572 := hts (Cond.initialized RJ4) (List.mem_cons_of_mem _ (gJ_of mw_572 rfl))
  have kmw_605 := hts (Cond.instantiable RJ4 4) (List.mem_cons_of_mem _ (gJ_of mw_605 rfl))
  obtain ⟨NC, hNC⟩ : ∃ d, d = 1 + ww / 2 ^ 9 % 2 ^ 3 := ⟨_, rfl⟩
  obtain ⟨NK, hNK⟩ : ∃ d, d = ww / 2 ^ 12 % 2 ^ 2 := ⟨_, rfl⟩
  obtain ⟨NN, hNN⟩ : ∃ d, d = ww / 2 ^ 14 % 2 ^ 4 := ⟨_, rfl⟩
  have hNCb : 1 ≤ NC ∧ NC ≤ 8 := by omega
  have hNKb : NK ≤ 3 := by omega
  have hNNb : NN ≤ 15 := by omega
  have hgo : ∀ (H : Heap) (locs : List Loc), va_P D vwCl ([]) H → va_S A s.heap H locs → W p l e ({ frames := 9, cells := 170, slots := 130000, locals := 214 } : Room) s m args below meth c H locs (0) (0) Q (F0 m 0 ls []) := by
    intro H locs hP hS
    refine va_new (ci := 11) (fs := [.null, .int 0, .int 0, .int 0]) (C := RJ4) (T := TJ4) (N := 4) hx hb hts iRJ4 tyJ4 tyJ4_ok hown kmw_1047 kmw_605 kmw_572 hK hP hD hS hA rfl (fun j hj => by rcases (show j = 0 ∨ j = 1 ∨ j = 2 ∨ j = 3 by omega) with rfl | rfl | rfl | rfl <;> rfl) (by show _ ≤ 170; omega) (by show _ ≤ 130000; omega) dL_window_0 (fun b9 H hP hD hS => ?_)
    have hP : va_P D vwCl ([(b9, .inr (11, [.null, .int 0, .int 0, .int 0]))]) H := hP
    have hD : va_D A ([(b9, .inr (11, [.null, .int 0, .int 0, .int 0]))]) := hD
    refine lv_dup hx hb dL_window_3 rfl ?_
    refine va_ldcS hx hb hown (hX.2.1 0 (by decide)) dL_window_4 ?_
    have hF0 : Foc [(b9, .inr (11, [.null, .int 0, .int 0, .int 0]))] [(b9, .inr (11, [.null, .int 0, .int 0, .int 0]))] [(b9, .inr (11, [.null, .int 0, .int 0, .int 0]))] [(b9, .inr (11, [.null, .int 0, .int 0, .int 0]))] := Foc.rfl _ _
    refine jtv (S := SBU) (ws1 := fun u => ([(b9, .inr (11, [.ref u.1, .int 0, .int 0, .int (nI (jL 0).length)])), (u.1, .inl (T 3, u.2.1, .inl u.2.2))] : va_W)) (wc1 := fun u => ([(b9, .inr (11, [.ref u.1, .int 0, .int 0, .int (nI (jL 0).length)])), (u.1, .inl (T 3, u.2.1, .inl u.2.2))] : va_W)) (va_runI (b := b9) (As := [.ref (x.1 0)]) (rest := [.ref (b9)]) ⟨hx, hb, hml, hown, hts⟩ (c_J4_init_a7421 l D T x b9 0 (by decide) _) (cwI 1 hts (gCJ gw_vtJ4_init_a7421) rfl rfl rfl kmw_572 kmw_1050 kmw_1051 rfl (by decide +kernel) ⟨Nat.le_of_ble_eq_true rfl, Nat.le_of_ble_eq_true rfl⟩) ⟨JP.blind _ _ _ _ _ _, jpre (As := [.ref (b9), .ref (x.1 0)]) hF0 hX hK hP hD hS hA⟩ rfl rfl hl.1 rfl (lv_room (m := m) (pc := 6) (ls := ls) (rest := [.ref (x.1 0), .ref (b9), .ref (b9)]) (st := [.ref (b9)]) (Nat.le_of_ble_eq_true rfl)) dL_window_6 ⟨by show _ ≤ 170; omega, by show _ ≤ 130000; omega⟩) (fun u => Foc.rfl _ _) (hF0) hP hD hS hA (fun u H locs hr hP hD hS => ?_)
    obtain ⟨q6, m6, a6⟩ := u
    have hP : va_P D vwCl ([(b9, .inr (11, [.ref q6, .int 0, .int 0, .int (nI (jL 0).length)])), (q6, .inl (T 3, m6, .inl a6))]) H := hP
    have hD : va_D A ([(b9, .inr (11, [.ref q6, .int 0, .int 0, .int (nI (jL 0).length)])), (q6, .inl (T 3, m6, .inl a6))]) := hD
    obtain ⟨L6, hL6⟩ : ∃ L9, L9 = jL 0 := ⟨_, rfl⟩
    have e6 : L6.length = 5 := by rw [hL6]; rfl
    rw [← hL6] at hP hD hr
    have hqL6 : L6.length ≤ m6 := hr.1
    have hmL6 : m6 ≤ 798 := hr.2.1
    have hbL6 : BL L6 a6 := hr.2.2.1
    have hfL6 : sb_Fit a6 := hr.2.2.2
    clear hr
    have hP : va_P D vwCl ([(b9, .inr (11, [.ref q6, .int 0, .int 0, .int (nI L6.length)])), (q6, .inl (T 3, m6, .inl a6))]) H := hP
    have hD : va_D A ([(b9, .inr (11, [.ref q6, .int 0, .int 0, .int (nI L6.length)])), (q6, .inl (T 3, m6, .inl a6))]) := hD
    refine lv_iconst (v := 1) hx hb dL_window_9 (by decide) ?_
    refine lv_iload_n hx hb dL_window_10 rfl (lv_at hl 0 rfl) ?_
    refine lv_sipush (v := 255) hx hb dL_window_11 (by decide) ?_
    refine lv_iand hx hb dL_window_14 ?_
    refine endI (r := nI (ww % 2 ^ 8)) (nI_and ww 8 hww (by decide)) ?_
    refine lv_bipush (v := 14) hx hb dL_window_15 (by decide) ?_
    refine lv_irem hx hb dL_window_17 (by decide) ?_
    refine endI (r := nI ((ww % 2 ^ 8) % 14)) (pk_rem (a := ww % 2 ^ 8) (d := 14) (by omega) (by decide) (by decide)) ?_
    refine lv_iadd hx hb dL_window_18 ?_
    obtain ⟨d1, hd1⟩ : ∃ d, d = 1 + ww % 2 ^ 8 % 14 := ⟨_, rfl⟩
    have hd1b : 1 ≤ d1 ∧ d1 ≤ 14 := by omega
    refine endI (r := nI d1) (by rw [hd1]; exact nI_add 1 _) ?_
    have hd19 : dgN d1 ≤ 2 := dgN_2 _
    have hF0 : Foc [(b9, .inr (11, [.ref q6, .int 0, .int 0, .int (nI L6.length)])), (q6, .inl (T 3, m6, .inl a6))] [(b9, .inr (11, [.ref q6, .int 0, .int 0, .int (nI L6.length)])), (q6, .inl (T 3, m6, .inl a6))] [(b9, .inr (11, [.ref q6, .int 0, .int 0, .int (nI L6.length)])), (q6, .inl (T 3, m6, .inl a6))] [(b9, .inr (11, [.ref q6, .int 0, .int 0, .int (nI L6.length)])), (q6, .inl (T 3, m6, .inl a6))] := Foc.rfl _ _
    refine jtr (S := SBU) (ws1 := fun u => ([(b9, .inr (11, [.ref u.1, .int 0, .int 0, .int (nI (L6.length + dgN d1))])), (u.1, .inl (T 3, u.2.1, .inl u.2.2))] : va_W)) (wc1 := fun u => ([(b9, .inr (11, [.ref u.1, .int 0, .int 0, .int (nI (L6.length + dgN d1))])), (u.1, .inl (T 3, u.2.1, .inl u.2.2))] : va_W)) (ru := fun u => b9) (va_runV (C := RJ4) (b := b9) (As := [.int (nI d1)]) (rest := []) ⟨hx, hb, hml, hown, hts⟩ (c_J4_append_bf812 l D T x b9 q6 m6 L6.length d1 a6 (by omega) hmL6 hqL6 (by omega) hfL6 _) (cwV 1 hts (gCJ gj75V_RL_184_J4_append_bf812) rfl rfl rfl (by decide +kernel) ⟨Nat.le_of_ble_eq_true rfl, Nat.le_of_ble_eq_true rfl⟩) ⟨JP.blind _ _ _ _ _ _, va_recv (ci := 11) (q0 := 0) hK ((hF0).subP hP) rfl rfl, jpre (As := [.ref (b9), .int (nI d1)]) hF0 hX hK hP hD hS hA⟩ rfl rfl hl.1 rfl (lv_room (m := m) (pc := 19) (ls := ls) (rest := [.int (nI d1), .ref (b9)]) (st := []) (Nat.le_of_ble_eq_true rfl)) dL_window_19 ⟨by show _ ≤ 170; omega, by show _ ≤ 130000; omega⟩) (fun u => Foc.rfl _ _) (hF0) hP hD hS hA (fun u H locs hr hP hD hS => ?_)
    obtain ⟨q19, m19, a19⟩ := u
    have hP : va_P D vwCl ([(b9, .inr (11, [.ref q19, .int 0, .int 0, .int (nI (L6.length + dgN d1))])), (q19, .inl (T 3, m19, .inl a19))]) H := hP
    have hD : va_D A ([(b9, .inr (11, [.ref q19, .int 0, .int 0, .int (nI (L6.length + dgN d1))])), (q19, .inl (T 3, m19, .inl a19))]) := hD
    have hb19 : BL (L6 ++ dgL d1) a19 := sbi_M hbL6 hr.2.2.2.1 (fun j hj => hr.2.2.2.2 j (by rw [dgL_len] at hj; exact hj))
    have e19 : (L6 ++ dgL d1).length = L6.length + dgN d1 := by rw [List.length_append, dgL_len]
    rw [← e19] at hP hD
    obtain ⟨L19, hL19⟩ : ∃ L9, L9 = L6 ++ dgL d1 := ⟨_, rfl⟩
    rw [← hL19] at hP hD hb19 e19
    have hqL19 : L19.length ≤ m19 := by rw [e19]; exact hr.1
    have hmL19 : m19 ≤ 798 := hr.2.1
    have hfL19 : sb_Fit a19 := hr.2.2.1
    have hbL19 := hb19
    clear hr hb19
    have hP : va_P D vwCl ([(b9, .inr (11, [.ref q19, .int 0, .int 0, .int (nI L19.length)])), (q19, .inl (T 3, m19, .inl a19))]) H := hP
    have hD : va_D A ([(b9, .inr (11, [.ref q19, .int 0, .int 0, .int (nI L19.length)])), (q19, .inl (T 3, m19, .inl a19))]) := hD
    refine lv_bipush (v := 32) hx hb dL_window_22 (by decide) ?_
    have hF0 : Foc [(b9, .inr (11, [.ref q19, .int 0, .int 0, .int (nI L19.length)])), (q19, .inl (T 3, m19, .inl a19))] [(b9, .inr (11, [.ref q19, .int 0, .int 0, .int (nI L19.length)])), (q19, .inl (T 3, m19, .inl a19))] [(b9, .inr (11, [.ref q19, .int 0, .int 0, .int (nI L19.length)])), (q19, .inl (T 3, m19, .inl a19))] [(b9, .inr (11, [.ref q19, .int 0, .int 0, .int (nI L19.length)])), (q19, .inl (T 3, m19, .inl a19))] := Foc.rfl _ _
    refine jtr (S := SBU) (ws1 := fun u => ([(b9, .inr (11, [.ref u.1, .int 0, .int 0, .int (nI (L19.length + 1))])), (u.1, .inl (T 3, u.2.1, .inl u.2.2))] : va_W)) (wc1 := fun u => ([(b9, .inr (11, [.ref u.1, .int 0, .int 0, .int (nI (L19.length + 1))])), (u.1, .inl (T 3, u.2.1, .inl u.2.2))] : va_W)) (ru := fun u => b9) (va_runV (C := RJ4) (b := b9) (As := [.int (32)]) (rest := []) ⟨hx, hb, hml, hown, hts⟩ (c_J4_append_cf468 l D T x b9 q19 m19 L19.length 32 a19 (by decide) hmL19 hqL19 (by omega) hfL19 _) (cwV 1 hts (gCJ gj75V_RL_187_J4_append_cf468) rfl rfl rfl (by decide +kernel) ⟨Nat.le_of_ble_eq_true rfl, Nat.le_of_ble_eq_true rfl⟩) ⟨JP.blind _ _ _ _ _ _, va_recv (ci := 11) (q0 := 0) hK ((hF0).subP hP) rfl rfl, jpre (As := [.ref (b9), .int (32)]) hF0 hX hK hP hD hS hA⟩ rfl rfl hl.1 rfl (lv_room (m := m) (pc := 24) (ls := ls) (rest := [.int (32), .ref (b9)]) (st := []) (Nat.le_of_ble_eq_true rfl)) dL_window_24 ⟨by show _ ≤ 170; omega, by show _ ≤ 130000; omega⟩) (fun u => Foc.rfl _ _) (hF0) hP hD hS hA (fun u H locs hr hP hD hS => ?_)
    obtain ⟨q24, m24, a24⟩ := u
    have hP : va_P D vwCl ([(b9, .inr (11, [.ref q24, .int 0, .int 0, .int (nI (L19.length + 1))])), (q24, .inl (T 3, m24, .inl a24))]) H := hP
    have hD : va_D A ([(b9, .inr (11, [.ref q24, .int 0, .int 0, .int (nI (L19.length + 1))])), (q24, .inl (T 3, m24, .inl a24))]) := hD
    have hb24 : BL (L19 ++ [32]) a24 := sbi_M hbL19 hr.2.2.2.1 (sb_one hr.2.2.2.2)
    have e24 : (L19 ++ [32]).length = L19.length + 1 := List.length_append
    rw [← e24] at hP hD
    obtain ⟨L24, hL24⟩ : ∃ L9, L9 = L19 ++ [32] := ⟨_, rfl⟩
    rw [← hL24] at hP hD hb24 e24
    have hqL24 : L24.length ≤ m24 := by rw [e24]; exact hr.1
    have hmL24 : m24 ≤ 798 := hr.2.1
    have hfL24 : sb_Fit a24 := hr.2.2.1
    have hbL24 := hb24
    clear hr hb24
    have hP : va_P D vwCl ([(b9, .inr (11, [.ref q24, .int 0, .int 0, .int (nI L24.length)])), (q24, .inl (T 3, m24, .inl a24))]) H := hP
    have hD : va_D A ([(b9, .inr (11, [.ref q24, .int 0, .int 0, .int (nI L24.length)])), (q24, .inl (T 3, m24, .inl a24))]) := hD
    refine lv_iload_n hx hb dL_window_27 rfl (lv_at hl 0 rfl) ?_
    refine lv_iconst (v := 3) hx hb dL_window_28 (by decide) ?_
    refine lv_ishr hx hb dL_window_29 ?_
    refine endI (r := nI (ww / 2 ^ 3)) (nI_shr (k := 3) hww (by decide)) ?_
    refine lv_sipush (v := 255) hx hb dL_window_30 (by decide) ?_
    refine lv_iand hx hb dL_window_33 ?_
    refine endI (r := nI (ww / 2 ^ 3 % 2 ^ 8)) (nI_and (ww / 2 ^ 3) 8 (Nat.lt_of_le_of_lt (Nat.div_le_self _ _) hww) (by decide)) ?_
    refine lv_bipush (v := 14) hx hb dL_window_34 (by decide) ?_
    refine lv_irem hx hb dL_window_36 (by decide) ?_
    obtain ⟨d2, hd2⟩ : ∃ d, d = ww / 2 ^ 3 % 2 ^ 8 % 14 := ⟨_, rfl⟩
    have hd2b : d2 ≤ 13 := by omega
    refine endI (r := nI d2) (by rw [hd2]; exact pk_rem (a := ww / 2 ^ 3 % 2 ^ 8) (d := 14) (by omega) (by decide) (by decide)) ?_
    have hd37 : dgN d2 ≤ 2 := dgN_2 _
    have hF0 : Foc [(b9, .inr (11, [.ref q24, .int 0, .int 0, .int (nI L24.length)])), (q24, .inl (T 3, m24, .inl a24))] [(b9, .inr (11, [.ref q24, .int 0, .int 0, .int (nI L24.length)])), (q24, .inl (T 3, m24, .inl a24))] [(b9, .inr (11, [.ref q24, .int 0, .int 0, .int (nI L24.length)])), (q24, .inl (T 3, m24, .inl a24))] [(b9, .inr (11, [.ref q24, .int 0, .int 0, .int (nI L24.length)])), (q24, .inl (T 3, m24, .inl a24))] := Foc.rfl _ _
    refine jtr (S := SBU) (ws1 := fun u => ([(b9, .inr (11, [.ref u.1, .int 0, .int 0, .int (nI (L24.length + dgN d2))])), (u.1, .inl (T 3, u.2.1, .inl u.2.2))] : va_W)) (wc1 := fun u => ([(b9, .inr (11, [.ref u.1, .int 0, .int 0, .int (nI (L24.length + dgN d2))])), (u.1, .inl (T 3, u.2.1, .inl u.2.2))] : va_W)) (ru := fun u => b9) (va_runV (C := RJ4) (b := b9) (As := [.int (nI d2)]) (rest := []) ⟨hx, hb, hml, hown, hts⟩ (c_J4_append_bf812 l D T x b9 q24 m24 L24.length d2 a24 (by omega) hmL24 hqL24 (by omega) hfL24 _) (cwV 1 hts (gCJ gj75V_RL_184_J4_append_bf812) rfl rfl rfl (by decide +kernel) ⟨Nat.le_of_ble_eq_true rfl, Nat.le_of_ble_eq_true rfl⟩) ⟨JP.blind _ _ _ _ _ _, va_recv (ci := 11) (q0 := 0) hK ((hF0).subP hP) rfl rfl, jpre (As := [.ref (b9), .int (nI d2)]) hF0 hX hK hP hD hS hA⟩ rfl rfl hl.1 rfl (lv_room (m := m) (pc := 37) (ls := ls) (rest := [.int (nI d2), .ref (b9)]) (st := []) (Nat.le_of_ble_eq_true rfl)) dL_window_37 ⟨by show _ ≤ 170; omega, by show _ ≤ 130000; omega⟩) (fun u => Foc.rfl _ _) (hF0) hP hD hS hA (fun u H locs hr hP hD hS => ?_)
    obtain ⟨q37, m37, a37⟩ := u
    have hP : va_P D vwCl ([(b9, .inr (11, [.ref q37, .int 0, .int 0, .int (nI (L24.length + dgN d2))])), (q37, .inl (T 3, m37, .inl a37))]) H := hP
    have hD : va_D A ([(b9, .inr (11, [.ref q37, .int 0, .int 0, .int (nI (L24.length + dgN d2))])), (q37, .inl (T 3, m37, .inl a37))]) := hD
    have hb37 : BL (L24 ++ dgL d2) a37 := sbi_M hbL24 hr.2.2.2.1 (fun j hj => hr.2.2.2.2 j (by rw [dgL_len] at hj; exact hj))
    have e37 : (L24 ++ dgL d2).length = L24.length + dgN d2 := by rw [List.length_append, dgL_len]
    rw [← e37] at hP hD
    obtain ⟨L37, hL37⟩ : ∃ L9, L9 = L24 ++ dgL d2 := ⟨_, rfl⟩
    rw [← hL37] at hP hD hb37 e37
    have hqL37 : L37.length ≤ m37 := by rw [e37]; exact hr.1
    have hmL37 : m37 ≤ 798 := hr.2.1
    have hfL37 : sb_Fit a37 := hr.2.2.1
    have hbL37 := hb37
    clear hr hb37
    have hP : va_P D vwCl ([(b9, .inr (11, [.ref q37, .int 0, .int 0, .int (nI L37.length)])), (q37, .inl (T 3, m37, .inl a37))]) H := hP
    have hD : va_D A ([(b9, .inr (11, [.ref q37, .int 0, .int 0, .int (nI L37.length)])), (q37, .inl (T 3, m37, .inl a37))]) := hD
    refine lv_bipush (v := 32) hx hb dL_window_40 (by decide) ?_
    have hF0 : Foc [(b9, .inr (11, [.ref q37, .int 0, .int 0, .int (nI L37.length)])), (q37, .inl (T 3, m37, .inl a37))] [(b9, .inr (11, [.ref q37, .int 0, .int 0, .int (nI L37.length)])), (q37, .inl (T 3, m37, .inl a37))] [(b9, .inr (11, [.ref q37, .int 0, .int 0, .int (nI L37.length)])), (q37, .inl (T 3, m37, .inl a37))] [(b9, .inr (11, [.ref q37, .int 0, .int 0, .int (nI L37.length)])), (q37, .inl (T 3, m37, .inl a37))] := Foc.rfl _ _
    refine jtr (S := SBU) (ws1 := fun u => ([(b9, .inr (11, [.ref u.1, .int 0, .int 0, .int (nI (L37.length + 1))])), (u.1, .inl (T 3, u.2.1, .inl u.2.2))] : va_W)) (wc1 := fun u => ([(b9, .inr (11, [.ref u.1, .int 0, .int 0, .int (nI (L37.length + 1))])), (u.1, .inl (T 3, u.2.1, .inl u.2.2))] : va_W)) (ru := fun u => b9) (va_runV (C := RJ4) (b := b9) (As := [.int (32)]) (rest := []) ⟨hx, hb, hml, hown, hts⟩ (c_J4_append_cf468 l D T x b9 q37 m37 L37.length 32 a37 (by decide) hmL37 hqL37 (by omega) hfL37 _) (cwV 1 hts (gCJ gj75V_RL_187_J4_append_cf468) rfl rfl rfl (by decide +kernel) ⟨Nat.le_of_ble_eq_true rfl, Nat.le_of_ble_eq_true rfl⟩) ⟨JP.blind _ _ _ _ _ _, va_recv (ci := 11) (q0 := 0) hK ((hF0).subP hP) rfl rfl, jpre (As := [.ref (b9), .int (32)]) hF0 hX hK hP hD hS hA⟩ rfl rfl hl.1 rfl (lv_room (m := m) (pc := 42) (ls := ls) (rest := [.int (32), .ref (b9)]) (st := []) (Nat.le_of_ble_eq_true rfl)) dL_window_42 ⟨by show _ ≤ 170; omega, by show _ ≤ 130000; omega⟩) (fun u => Foc.rfl _ _) (hF0) hP hD hS hA (fun u H locs hr hP hD hS => ?_)
    obtain ⟨q42, m42, a42⟩ := u
    have hP : va_P D vwCl ([(b9, .inr (11, [.ref q42, .int 0, .int 0, .int (nI (L37.length + 1))])), (q42, .inl (T 3, m42, .inl a42))]) H := hP
    have hD : va_D A ([(b9, .inr (11, [.ref q42, .int 0, .int 0, .int (nI (L37.length + 1))])), (q42, .inl (T 3, m42, .inl a42))]) := hD
    have hb42 : BL (L37 ++ [32]) a42 := sbi_M hbL37 hr.2.2.2.1 (sb_one hr.2.2.2.2)
    have e42 : (L37 ++ [32]).length = L37.length + 1 := List.length_append
    rw [← e42] at hP hD
    obtain ⟨L42, hL42⟩ : ∃ L9, L9 = L37 ++ [32] := ⟨_, rfl⟩
    rw [← hL42] at hP hD hb42 e42
    have hqL42 : L42.length ≤ m42 := by rw [e42]; exact hr.1
    have hmL42 : m42 ≤ 798 := hr.2.1
    have hfL42 : sb_Fit a42 := hr.2.2.1
    have hbL42 := hb42
    clear hr hb42
    have hP : va_P D vwCl ([(b9, .inr (11, [.ref q42, .int 0, .int 0, .int (nI L42.length)])), (q42, .inl (T 3, m42, .inl a42))]) H := hP
    have hD : va_D A ([(b9, .inr (11, [.ref q42, .int 0, .int 0, .int (nI L42.length)])), (q42, .inl (T 3, m42, .inl a42))]) := hD
    refine lv_iload_n hx hb dL_window_45 rfl (lv_at hl 0 rfl) ?_
    refine lv_bipush (v := 6) hx hb dL_window_46 (by decide) ?_
    refine lv_ishr hx hb dL_window_48 ?_
    refine endI (r := nI (ww / 2 ^ 6)) (nI_shr (k := 6) hww (by decide)) ?_
    refine lv_bipush (v := 7) hx hb dL_window_49 (by decide) ?_
    refine lv_iand hx hb dL_window_51 ?_
    obtain ⟨d3, hd3⟩ : ∃ d, d = ww / 2 ^ 6 % 2 ^ 3 := ⟨_, rfl⟩
    have hd3b : d3 ≤ 7 := by omega
    refine endI (r := nI d3) (by rw [hd3]; exact nI_and (ww / 2 ^ 6) 3 (Nat.lt_of_le_of_lt (Nat.div_le_self _ _) hww) (by decide)) ?_
    have hd52 : dgN d3 ≤ 2 := dgN_2 _
    have he52 : dgN d3 = 1 := if_pos (by omega)
    have hF0 : Foc [(b9, .inr (11, [.ref q42, .int 0, .int 0, .int (nI L42.length)])), (q42, .inl (T 3, m42, .inl a42))] [(b9, .inr (11, [.ref q42, .int 0, .int 0, .int (nI L42.length)])), (q42, .inl (T 3, m42, .inl a42))] [(b9, .inr (11, [.ref q42, .int 0, .int 0, .int (nI L42.length)])), (q42, .inl (T 3, m42, .inl a42))] [(b9, .inr (11, [.ref q42, .int 0, .int 0, .int (nI L42.length)])), (q42, .inl (T 3, m42, .inl a42))] := Foc.rfl _ _
    refine jtr (S := SBU) (ws1 := fun u => ([(b9, .inr (11, [.ref u.1, .int 0, .int 0, .int (nI (L42.length + dgN d3))])), (u.1, .inl (T 3, u.2.1, .inl u.2.2))] : va_W)) (wc1 := fun u => ([(b9, .inr (11, [.ref u.1, .int 0, .int 0, .int (nI (L42.length + dgN d3))])), (u.1, .inl (T 3, u.2.1, .inl u.2.2))] : va_W)) (ru := fun u => b9) (va_runV (C := RJ4) (b := b9) (As := [.int (nI d3)]) (rest := []) ⟨hx, hb, hml, hown, hts⟩ (c_J4_append_bf812 l D T x b9 q42 m42 L42.length d3 a42 (by omega) hmL42 hqL42 (by omega) hfL42 _) (cwV 1 hts (gCJ gj75V_RL_184_J4_append_bf812) rfl rfl rfl (by decide +kernel) ⟨Nat.le_of_ble_eq_true rfl, Nat.le_of_ble_eq_true rfl⟩) ⟨JP.blind _ _ _ _ _ _, va_recv (ci := 11) (q0 := 0) hK ((hF0).subP hP) rfl rfl, jpre (As := [.ref (b9), .int (nI d3)]) hF0 hX hK hP hD hS hA⟩ rfl rfl hl.1 rfl (lv_room (m := m) (pc := 52) (ls := ls) (rest := [.int (nI d3), .ref (b9)]) (st := []) (Nat.le_of_ble_eq_true rfl)) dL_window_52 ⟨by show _ ≤ 170; omega, by show _ ≤ 130000; omega⟩) (fun u => Foc.rfl _ _) (hF0) hP hD hS hA (fun u H locs hr hP hD hS => ?_)
    obtain ⟨q52, m52, a52⟩ := u
    have hP : va_P D vwCl ([(b9, .inr (11, [.ref q52, .int 0, .int 0, .int (nI (L42.length + dgN d3))])), (q52, .inl (T 3, m52, .inl a52))]) H := hP
    have hD : va_D A ([(b9, .inr (11, [.ref q52, .int 0, .int 0, .int (nI (L42.length + dgN d3))])), (q52, .inl (T 3, m52, .inl a52))]) := hD
    have hb52 : BL (L42 ++ dgL d3) a52 := sbi_M hbL42 hr.2.2.2.1 (fun j hj => hr.2.2.2.2 j (by rw [dgL_len] at hj; exact hj))
    have e52 : (L42 ++ dgL d3).length = L42.length + dgN d3 := by rw [List.length_append, dgL_len]
    rw [← e52] at hP hD
    obtain ⟨L52, hL52⟩ : ∃ L9, L9 = L42 ++ dgL d3 := ⟨_, rfl⟩
    rw [← hL52] at hP hD hb52 e52
    have hqL52 : L52.length ≤ m52 := by rw [e52]; exact hr.1
    have hmL52 : m52 ≤ 798 := hr.2.1
    have hfL52 : sb_Fit a52 := hr.2.2.1
    have hbL52 := hb52
    clear hr hb52
    have hP : va_P D vwCl ([(b9, .inr (11, [.ref q52, .int 0, .int 0, .int (nI L52.length)])), (q52, .inl (T 3, m52, .inl a52))]) H := hP
    have hD : va_D A ([(b9, .inr (11, [.ref q52, .int 0, .int 0, .int (nI L52.length)])), (q52, .inl (T 3, m52, .inl a52))]) := hD
    refine va_ldcS hx hb hown (hX.2.1 1 (by decide)) dL_window_55 ?_
    have hj57 : (jL 1).length ≤ 10 := (jL_ok 1 (by omega)).1
    have hk57 : (jL 1).length = 7 := rfl
    have hF0 : Foc [(b9, .inr (11, [.ref q52, .int 0, .int 0, .int (nI L52.length)])), (q52, .inl (T 3, m52, .inl a52))] [(b9, .inr (11, [.ref q52, .int 0, .int 0, .int (nI L52.length)])), (q52, .inl (T 3, m52, .inl a52))] [(b9, .inr (11, [.ref q52, .int 0, .int 0, .int (nI L52.length)])), (q52, .inl (T 3, m52, .inl a52))] [(b9, .inr (11, [.ref q52, .int 0, .int 0, .int (nI L52.length)])), (q52, .inl (T 3, m52, .inl a52))] := Foc.rfl _ _
    refine jtr (S := SBU) (ws1 := fun u => ([(b9, .inr (11, [.ref u.1, .int 0, .int 0, .int (nI (L52.length + (jL 1).length))])), (u.1, .inl (T 3, u.2.1, .inl u.2.2))] : va_W)) (wc1 := fun u => ([(b9, .inr (11, [.ref u.1, .int 0, .int 0, .int (nI (L52.length + (jL 1).length))])), (u.1, .inl (T 3, u.2.1, .inl u.2.2))] : va_W)) (ru := fun u => b9) (va_runV (C := RJ4) (b := b9) (As := [.ref (x.1 1)]) (rest := []) ⟨hx, hb, hml, hown, hts⟩ (c_J4_append_15ec4 l D T x b9 q52 m52 L52.length 1 a52 (by omega) hmL52 hqL52 (by omega) hfL52 _) (cwV 1 hts (gCJ gj75V_RL_192_J4_append_15ec4) rfl rfl rfl (by decide +kernel) ⟨Nat.le_of_ble_eq_true rfl, Nat.le_of_ble_eq_true rfl⟩) ⟨JP.blind _ _ _ _ _ _, va_recv (ci := 11) (q0 := 0) hK ((hF0).subP hP) rfl rfl, jpre (As := [.ref (b9), .ref (x.1 1)]) hF0 hX hK hP hD hS hA⟩ rfl rfl hl.1 rfl (lv_room (m := m) (pc := 57) (ls := ls) (rest := [.ref (x.1 1), .ref (b9)]) (st := []) (Nat.le_of_ble_eq_true rfl)) dL_window_57 ⟨by show _ ≤ 170; omega, by show _ ≤ 130000; omega⟩) (fun u => Foc.rfl _ _) (hF0) hP hD hS hA (fun u H locs hr hP hD hS => ?_)
    obtain ⟨q57, m57, a57⟩ := u
    have hP : va_P D vwCl ([(b9, .inr (11, [.ref q57, .int 0, .int 0, .int (nI (L52.length + (jL 1).length))])), (q57, .inl (T 3, m57, .inl a57))]) H := hP
    have hD : va_D A ([(b9, .inr (11, [.ref q57, .int 0, .int 0, .int (nI (L52.length + (jL 1).length))])), (q57, .inl (T 3, m57, .inl a57))]) := hD
    have hb57 : BL (L52 ++ jL 1) a57 := sbi_M hbL52 hr.2.2.2.1 (fun j hj => hr.2.2.2.2 j hj)
    have e57 : (L52 ++ jL 1).length = L52.length + (jL 1).length := List.length_append
    rw [← e57] at hP hD
    obtain ⟨L57, hL57⟩ : ∃ L9, L9 = L52 ++ jL 1 := ⟨_, rfl⟩
    rw [← hL57] at hP hD hb57 e57
    have hqL57 : L57.length ≤ m57 := by rw [e57]; exact hr.1
    have hmL57 : m57 ≤ 798 := hr.2.1
    have hfL57 : sb_Fit a57 := hr.2.2.1
    have hbL57 := hb57
    clear hr hb57
    have hP : va_P D vwCl ([(b9, .inr (11, [.ref q57, .int 0, .int 0, .int (nI L57.length)])), (q57, .inl (T 3, m57, .inl a57))]) H := hP
    have hD : va_D A ([(b9, .inr (11, [.ref q57, .int 0, .int 0, .int (nI L57.length)])), (q57, .inl (T 3, m57, .inl a57))]) := hD
    refine lv_astore_n (lv' := [(2, .ref (b9)), (0, .int (nI ww)), (1, .int (nI vv))]) hx hb dL_window_60 rfl hl (by decide) rfl (fun ls hl => ?_)
    refine lv_iload_n hx hb dL_window_61 rfl (lv_at hl 2 rfl) ?_
    refine lv_istore_n (lv' := [(3, .int (nI vv)), (2, .ref (b9)), (0, .int (nI ww)), (1, .int (nI vv))]) hx hb dL_window_62 rfl hl (by decide) rfl (fun ls hl => ?_)
    refine lv_iconst (v := 0) hx hb dL_window_63 (by decide) ?_
    refine lv_istore (lv' := [(4, .int (0)), (3, .int (nI vv)), (2, .ref (b9)), (0, .int (nI ww)), (1, .int (nI vv))]) hx hb dL_window_64 hl (by decide) rfl (fun ls hl => ?_)
    have L66 : ∀ (n9 : Nat) (k1 : Nat) (y1 : Int32) (q1x : Nat) (m1x : Nat) (a1x : Nat → Int32) (L1x : List Nat) (cl : List Nat) (cb1 sb1 : Nat), (NC - k1) < n9 → (k1 ≤ NC) → (L1x.length ≤ m1x) → (m1x ≤ 798) → (BL L1x a1x) → (sb_Fit a1x) → (L1x = L57 ++ clT cl) → (cl.length = k1) → (∀ z ∈ cl, z ≤ 9) → (L1x.length ≤ 19 + 2 * k1) → cb1 ≤ 0 + 9 + 2 * k1 → sb1 ≤ 0 + 5690 + 1596 * k1 → ∀ (H : Heap) (locs : List Loc) (ls : Array Slot), va_P D vwCl ([(b9, .inr (11, [.ref q1x, .int 0, .int 0, .int (nI L1x.length)])), (q1x, .inl (T 3, m1x, .inl a1x))]) H → va_D A ([(b9, .inr (11, [.ref q1x, .int 0, .int 0, .int (nI L1x.length)])), (q1x, .inl (T 3, m1x, .inl a1x))]) → va_S A s.heap H locs → lv_has ls 6 [(4, .int (nI k1)), (3, .int (y1)), (2, .ref (b9)), (0, .int (nI ww)), (1, .int (nI vv))] → W p l e ({ frames := 9, cells := 170, slots := 130000, locals := 214 } : Room) s m args below meth c H locs cb1 sb1 Q (F0 m 66 ls []) := by
      intro n9
      induction n9 with
      | zero => intro k1 y1 q1x m1x a1x L1x cl cb1 sb1 hm9; exact absurd hm9 (Nat.not_lt_zero _)
      | succ n9 ih66 =>
        intro k1 y1 q1x m1x a1x L1x cl cb1 sb1 hm9 hk1 hqL1x hmL1x hbL1x hfL1x hL1x hc1 hz1 hl1 hcb1 hsb1 H locs ls hP hD hS hl
        refine lv_iload hx hb dL_window_66 (lv_at hl 0 rfl) ?_
        refine lv_iconst (v := 1) hx hb dL_window_68 (by decide) ?_
        refine lv_iload_n hx hb dL_window_69 rfl (lv_at hl 3 rfl) ?_
        refine lv_bipush (v := 9) hx hb dL_window_70 (by decide) ?_
        refine lv_ishr hx hb dL_window_72 ?_
        refine endI (r := nI (ww / 2 ^ 9)) (nI_shr (k := 9) hww (by decide)) ?_
        refine lv_bipush (v := 7) hx hb dL_window_73 (by decide) ?_
        refine lv_iand hx hb dL_window_75 ?_
        refine endI (r := nI (ww / 2 ^ 9 % 2 ^ 3)) (nI_and (ww / 2 ^ 9) 3 (Nat.lt_of_le_of_lt (Nat.div_le_self _ _) hww) (by decide)) ?_
        refine lv_iadd hx hb dL_window_76 ?_
        refine endI (r := nI NC) (by rw [hNC]; exact nI_add 1 _) ?_
        refine lv_icmp_ge (tgt := 116) hx hb dL_window_77 (by decide) (fun c77 => ?_) (fun c77 => ?_)
        ·
          have c77 : NC ≤ k1 := (nI_leI (a := NC) (b := k1) (by omega) (by omega)).mp c77
          refine lv_aload_n hx hb dL_window_116 rfl (lv_at hl 2 rfl) ?_
          refine lv_bipush (v := 59) hx hb dL_window_117 (by decide) ?_
          have hF0 : Foc [(b9, .inr (11, [.ref q1x, .int 0, .int 0, .int (nI L1x.length)])), (q1x, .inl (T 3, m1x, .inl a1x))] [(b9, .inr (11, [.ref q1x, .int 0, .int 0, .int (nI L1x.length)])), (q1x, .inl (T 3, m1x, .inl a1x))] [(b9, .inr (11, [.ref q1x, .int 0, .int 0, .int (nI L1x.length)])), (q1x, .inl (T 3, m1x, .inl a1x))] [(b9, .inr (11, [.ref q1x, .int 0, .int 0, .int (nI L1x.length)])), (q1x, .inl (T 3, m1x, .inl a1x))] := Foc.rfl _ _
          refine jtr (S := SBU) (ws1 := fun u => ([(b9, .inr (11, [.ref u.1, .int 0, .int 0, .int (nI (L1x.length + 1))])), (u.1, .inl (T 3, u.2.1, .inl u.2.2))] : va_W)) (wc1 := fun u => ([(b9, .inr (11, [.ref u.1, .int 0, .int 0, .int (nI (L1x.length + 1))])), (u.1, .inl (T 3, u.2.1, .inl u.2.2))] : va_W)) (ru := fun u => b9) (va_runV (C := RJ4) (b := b9) (As := [.int (59)]) (rest := []) ⟨hx, hb, hml, hown, hts⟩ (c_J4_append_cf468 l D T x b9 q1x m1x L1x.length 59 a1x (by decide) hmL1x hqL1x (by omega) hfL1x _) (cwV 1 hts (gCJ gj75V_RL_187_J4_append_cf468) rfl rfl rfl (by decide +kernel) ⟨Nat.le_of_ble_eq_true rfl, Nat.le_of_ble_eq_true rfl⟩) ⟨JP.blind _ _ _ _ _ _, va_recv (ci := 11) (q0 := 0) hK ((hF0).subP hP) rfl rfl, jpre (As := [.ref (b9), .int (59)]) hF0 hX hK hP hD hS hA⟩ rfl rfl hl.1 rfl (lv_room (m := m) (pc := 119) (ls := ls) (rest := [.int (59), .ref (b9)]) (st := []) (Nat.le_of_ble_eq_true rfl)) dL_window_119 ⟨by show _ ≤ 170; omega, by show _ ≤ 130000; omega⟩) (fun u => Foc.rfl _ _) (hF0) hP hD hS hA (fun u H locs hr hP hD hS => ?_)
          obtain ⟨q119, m119, a119⟩ := u
          have hP : va_P D vwCl ([(b9, .inr (11, [.ref q119, .int 0, .int 0, .int (nI (L1x.length + 1))])), (q119, .inl (T 3, m119, .inl a119))]) H := hP
          have hD : va_D A ([(b9, .inr (11, [.ref q119, .int 0, .int 0, .int (nI (L1x.length + 1))])), (q119, .inl (T 3, m119, .inl a119))]) := hD
          have hb119 : BL (L1x ++ [59]) a119 := sbi_M hbL1x hr.2.2.2.1 (sb_one hr.2.2.2.2)
          have e119 : (L1x ++ [59]).length = L1x.length + 1 := List.length_append
          rw [← e119] at hP hD
          obtain ⟨L119, hL119⟩ : ∃ L9, L9 = L1x ++ [59] := ⟨_, rfl⟩
          rw [← hL119] at hP hD hb119 e119
          have hqL119 : L119.length ≤ m119 := by rw [e119]; exact hr.1
          have hmL119 : m119 ≤ 798 := hr.2.1
          have hfL119 : sb_Fit a119 := hr.2.2.1
          have hbL119 := hb119
          clear hr hb119
          have hP : va_P D vwCl ([(b9, .inr (11, [.ref q119, .int 0, .int 0, .int (nI L119.length)])), (q119, .inl (T 3, m119, .inl a119))]) H := hP
          have hD : va_D A ([(b9, .inr (11, [.ref q119, .int 0, .int 0, .int (nI L119.length)])), (q119, .inl (T 3, m119, .inl a119))]) := hD
          refine lv_pop hx hb dL_window_122 rfl ?_
          refine lv_iconst (v := 0) hx hb dL_window_123 (by decide) ?_
          refine lv_istore (lv' := [(4, .int (0)), (3, .int (y1)), (2, .ref (b9)), (0, .int (nI ww)), (1, .int (nI vv))]) hx hb dL_window_124 hl (by decide) rfl (fun ls hl => ?_)
          have L126 : ∀ (n9 : Nat) (k2 : Nat) (y2 : Int32) (q2x : Nat) (m2x : Nat) (a2x : Nat → Int32) (L2x : List Nat) (ck : List (Nat × Nat)) (cb2 sb2 : Nat), (NK - k2) < n9 → (k2 ≤ NK) → (L2x.length ≤ m2x) → (m2x ≤ 798) → (BL L2x a2x) → (sb_Fit a2x) → (L2x = L119 ++ ckT ck) → (ck.length = k2) → (∀ z ∈ ck, 1 ≤ z.1 ∧ z.1 ≤ 9 ∧ z.2 ≤ 99) → (L2x.length ≤ 36 + 11 * k2) → cb2 ≤ 0 + 9 + 2 * k1 + 1 + 5 * k2 → sb2 ≤ 0 + 5690 + 1596 * k1 + 798 + 3990 * k2 → ∀ (H : Heap) (locs : List Loc) (ls : Array Slot), va_P D vwCl ([(b9, .inr (11, [.ref q2x, .int 0, .int 0, .int (nI L2x.length)])), (q2x, .inl (T 3, m2x, .inl a2x))]) H → va_D A ([(b9, .inr (11, [.ref q2x, .int 0, .int 0, .int (nI L2x.length)])), (q2x, .inl (T 3, m2x, .inl a2x))]) → va_S A s.heap H locs → lv_has ls 6 [(4, .int (nI k2)), (3, .int (y2)), (2, .ref (b9)), (0, .int (nI ww)), (1, .int (nI vv))] → W p l e ({ frames := 9, cells := 170, slots := 130000, locals := 214 } : Room) s m args below meth c H locs cb2 sb2 Q (F0 m 126 ls []) := by
            intro n9
            induction n9 with
            | zero => intro k2 y2 q2x m2x a2x L2x ck cb2 sb2 hm9; exact absurd hm9 (Nat.not_lt_zero _)
            | succ n9 ih126 =>
              intro k2 y2 q2x m2x a2x L2x ck cb2 sb2 hm9 hk2 hqL2x hmL2x hbL2x hfL2x hL2x hc2 hz2 hl2 hcb2 hsb2 H locs ls hP hD hS hl
              refine lv_iload hx hb dL_window_126 (lv_at hl 0 rfl) ?_
              refine lv_iload_n hx hb dL_window_128 rfl (lv_at hl 3 rfl) ?_
              refine lv_bipush (v := 12) hx hb dL_window_129 (by decide) ?_
              refine lv_ishr hx hb dL_window_131 ?_
              refine endI (r := nI (ww / 2 ^ 12)) (nI_shr (k := 12) hww (by decide)) ?_
              refine lv_iconst (v := 3) hx hb dL_window_132 (by decide) ?_
              refine lv_iand hx hb dL_window_133 ?_
              refine endI (r := nI NK) (by rw [hNK]; exact nI_and (ww / 2 ^ 12) 2 (Nat.lt_of_le_of_lt (Nat.div_le_self _ _) hww) (by decide)) ?_
              refine lv_icmp_ge (tgt := 199) hx hb dL_window_134 (by decide) (fun c134 => ?_) (fun c134 => ?_)
              ·
                have c134 : NK ≤ k2 := (nI_leI (a := NK) (b := k2) (by omega) (by omega)).mp c134
                refine lv_iconst (v := 4) hx hb dL_window_199 (by decide) ?_
                refine newS hx hb hown kmw_1049 hX.2.2.2.2.2 hK hP hD hS hA (n := 4) (N' := 4) (by decide) (by decide) (by decide) (by show _ ≤ 170; omega) (by show _ ≤ 130000; omega) dL_window_200 (fun g9 H hP hD hS => ?_)
                have hP : va_P D vwCl ([(b9, .inr (11, [.ref q2x, .int 0, .int 0, .int (nI L2x.length)])), (q2x, .inl (T 3, m2x, .inl a2x)), (g9, .inl (T 4, 4, .inr (.inr (.inr (.inr (fun _ => none))))))]) H := hP
                have hD : va_D A ([(b9, .inr (11, [.ref q2x, .int 0, .int 0, .int (nI L2x.length)])), (q2x, .inl (T 3, m2x, .inl a2x)), (g9, .inl (T 4, 4, .inr (.inr (.inr (.inr (fun _ => none))))))]) := hD
                refine lv_dup hx hb dL_window_203 rfl ?_
                refine lv_iconst (v := 0) hx hb dL_window_204 (by decide) ?_
                refine va_ldcS hx hb hown (hX.2.1 3 (by decide)) dL_window_205 ?_
                refine vb_astq (E := "java/lang/String") (C := "java/lang/String") hx hb hK hP hD hS 2 4 rfl rfl ((hX.1 3 (by decide)).rc hS) (str_asg hK) (by unfold vp_in; decide) dL_window_207 (fun H locs hP hD hS => ?_)
                have hP : va_P D vwCl ([(b9, .inr (11, [.ref q2x, .int 0, .int 0, .int (nI L2x.length)])), (q2x, .inl (T 3, m2x, .inl a2x)), (g9, .inl (T 4, 4, .inr (.inr (.inr (.inr (va_up (fun _ => none) 0 (some (x.1 3))))))))]) H := hP
                have hD : va_D A ([(b9, .inr (11, [.ref q2x, .int 0, .int 0, .int (nI L2x.length)])), (q2x, .inl (T 3, m2x, .inl a2x)), (g9, .inl (T 4, 4, .inr (.inr (.inr (.inr (va_up (fun _ => none) 0 (some (x.1 3))))))))]) := hD
                refine lv_dup hx hb dL_window_208 rfl ?_
                refine lv_iconst (v := 1) hx hb dL_window_209 (by decide) ?_
                refine va_ldcS hx hb hown (hX.2.1 4 (by decide)) dL_window_210 ?_
                refine vb_astq (E := "java/lang/String") (C := "java/lang/String") hx hb hK hP hD hS 2 4 rfl rfl ((hX.1 4 (by decide)).rc hS) (str_asg hK) (by unfold vp_in; decide) dL_window_212 (fun H locs hP hD hS => ?_)
                have hP : va_P D vwCl ([(b9, .inr (11, [.ref q2x, .int 0, .int 0, .int (nI L2x.length)])), (q2x, .inl (T 3, m2x, .inl a2x)), (g9, .inl (T 4, 4, .inr (.inr (.inr (.inr (va_up (va_up (fun _ => none) 0 (some (x.1 3))) 1 (some (x.1 4))))))))]) H := hP
                have hD : va_D A ([(b9, .inr (11, [.ref q2x, .int 0, .int 0, .int (nI L2x.length)])), (q2x, .inl (T 3, m2x, .inl a2x)), (g9, .inl (T 4, 4, .inr (.inr (.inr (.inr (va_up (va_up (fun _ => none) 0 (some (x.1 3))) 1 (some (x.1 4))))))))]) := hD
                refine lv_dup hx hb dL_window_213 rfl ?_
                refine lv_iconst (v := 2) hx hb dL_window_214 (by decide) ?_
                refine va_ldcS hx hb hown (hX.2.1 5 (by decide)) dL_window_215 ?_
                refine vb_astq (E := "java/lang/String") (C := "java/lang/String") hx hb hK hP hD hS 2 4 rfl rfl ((hX.1 5 (by decide)).rc hS) (str_asg hK) (by unfold vp_in; decide) dL_window_217 (fun H locs hP hD hS => ?_)
                have hP : va_P D vwCl ([(b9, .inr (11, [.ref q2x, .int 0, .int 0, .int (nI L2x.length)])), (q2x, .inl (T 3, m2x, .inl a2x)), (g9, .inl (T 4, 4, .inr (.inr (.inr (.inr (va_up (va_up (va_up (fun _ => none) 0 (some (x.1 3))) 1 (some (x.1 4))) 2 (some (x.1 5))))))))]) H := hP
                have hD : va_D A ([(b9, .inr (11, [.ref q2x, .int 0, .int 0, .int (nI L2x.length)])), (q2x, .inl (T 3, m2x, .inl a2x)), (g9, .inl (T 4, 4, .inr (.inr (.inr (.inr (va_up (va_up (va_up (fun _ => none) 0 (some (x.1 3))) 1 (some (x.1 4))) 2 (some (x.1 5))))))))]) := hD
                refine lv_dup hx hb dL_window_218 rfl ?_
                refine lv_iconst (v := 3) hx hb dL_window_219 (by decide) ?_
                refine va_ldcS hx hb hown (hX.2.1 6 (by decide)) dL_window_220 ?_
                refine vb_astq (E := "java/lang/String") (C := "java/lang/String") hx hb hK hP hD hS 2 4 rfl rfl ((hX.1 6 (by decide)).rc hS) (str_asg hK) (by unfold vp_in; decide) dL_window_222 (fun H locs hP hD hS => ?_)
                have hP : va_P D vwCl ([(b9, .inr (11, [.ref q2x, .int 0, .int 0, .int (nI L2x.length)])), (q2x, .inl (T 3, m2x, .inl a2x)), (g9, .inl (T 4, 4, .inr (.inr (.inr (.inr (va_up (va_up (va_up (va_up (fun _ => none) 0 (some (x.1 3))) 1 (some (x.1 4))) 2 (some (x.1 5))) 3 (some (x.1 6))))))))]) H := hP
                have hD : va_D A ([(b9, .inr (11, [.ref q2x, .int 0, .int 0, .int (nI L2x.length)])), (q2x, .inl (T 3, m2x, .inl a2x)), (g9, .inl (T 4, 4, .inr (.inr (.inr (.inr (va_up (va_up (va_up (va_up (fun _ => none) 0 (some (x.1 3))) 1 (some (x.1 4))) 2 (some (x.1 5))) 3 (some (x.1 6))))))))]) := hD
                refine lv_astore (lv' := [(4, .ref (g9)), (3, .int (y2)), (2, .ref (b9)), (0, .int (nI ww)), (1, .int (nI vv))]) hx hb dL_window_223 hl (by decide) rfl (fun ls hl => ?_)
                refine lv_iconst (v := 0) hx hb dL_window_225 (by decide) ?_
                refine lv_istore (lv' := [(5, .int (0)), (4, .ref (g9)), (3, .int (y2)), (2, .ref (b9)), (0, .int (nI ww)), (1, .int (nI vv))]) hx hb dL_window_226 hl (by decide) rfl (fun ls hl => ?_)
                have L228 : ∀ (n9 : Nat) (k3 : Nat) (y3 : Int32) (q3x : Nat) (m3x : Nat) (a3x : Nat → Int32) (L3x : List Nat) (cp : List (Nat × Nat × Nat)) (cb3 sb3 : Nat), (NN - k3) < n9 → (k3 ≤ NN) → (L3x.length ≤ m3x) → (m3x ≤ 798) → (BL L3x a3x) → (sb_Fit a3x) → (L3x = L2x ++ cpT cp) → (cp.length = k3) → (CPOK cp) → (L3x.length ≤ 69 + 21 * k3) → cb3 ≤ 0 + 9 + 2 * k1 + 1 + 5 * k2 + 1 + 7 * k3 → sb3 ≤ 0 + 5690 + 1596 * k1 + 798 + 3990 * k2 + 4 + 5586 * k3 → ∀ (H : Heap) (locs : List Loc) (ls : Array Slot), va_P D vwCl ([(b9, .inr (11, [.ref q3x, .int 0, .int 0, .int (nI L3x.length)])), (q3x, .inl (T 3, m3x, .inl a3x)), (g9, .inl (T 4, 4, .inr (.inr (.inr (.inr (va_up (va_up (va_up (va_up (fun _ => none) 0 (some (x.1 3))) 1 (some (x.1 4))) 2 (some (x.1 5))) 3 (some (x.1 6))))))))]) H → va_D A ([(b9, .inr (11, [.ref q3x, .int 0, .int 0, .int (nI L3x.length)])), (q3x, .inl (T 3, m3x, .inl a3x)), (g9, .inl (T 4, 4, .inr (.inr (.inr (.inr (va_up (va_up (va_up (va_up (fun _ => none) 0 (some (x.1 3))) 1 (some (x.1 4))) 2 (some (x.1 5))) 3 (some (x.1 6))))))))]) → va_S A s.heap H locs → lv_has ls 6 [(5, .int (nI k3)), (4, .ref (g9)), (3, .int (y3)), (2, .ref (b9)), (0, .int (nI ww)), (1, .int (nI vv))] → W p l e ({ frames := 9, cells := 170, slots := 130000, locals := 214 } : Room) s m args below meth c H locs cb3 sb3 Q (F0 m 228 ls []) := by
                  intro n9
                  induction n9 with
                  | zero => intro k3 y3 q3x m3x a3x L3x cp cb3 sb3 hm9; exact absurd hm9 (Nat.not_lt_zero _)
                  | succ n9 ih228 =>
                    intro k3 y3 q3x m3x a3x L3x cp cb3 sb3 hm9 hk3 hqL3x hmL3x hbL3x hfL3x hL3x hc3 hz3 hl3 hcb3 hsb3 H locs ls hP hD hS hl
                    refine lv_iload hx hb dL_window_228 (lv_at hl 0 rfl) ?_
                    refine lv_iload_n hx hb dL_window_230 rfl (lv_at hl 4 rfl) ?_
                    refine lv_bipush (v := 14) hx hb dL_window_231 (by decide) ?_
                    refine lv_ishr hx hb dL_window_233 ?_
                    refine endI (r := nI (ww / 2 ^ 14)) (nI_shr (k := 14) hww (by decide)) ?_
                    refine lv_bipush (v := 15) hx hb dL_window_234 (by decide) ?_
                    refine lv_iand hx hb dL_window_236 ?_
                    refine endI (r := nI NN) (by rw [hNN]; exact nI_and (ww / 2 ^ 14) 4 (Nat.lt_of_le_of_lt (Nat.div_le_self _ _) hww) (by decide)) ?_
                    refine lv_icmp_ge (tgt := 319) hx hb dL_window_237 (by decide) (fun c237 => ?_) (fun c237 => ?_)
                    ·
                      have c237 : NN ≤ k3 := (nI_leI (a := NN) (b := k3) (by omega) (by omega)).mp c237
                      refine lv_aload_n hx hb dL_window_319 rfl (lv_at hl 3 rfl) ?_
                      have hF0 : Foc [(b9, .inr (11, [.ref q3x, .int 0, .int 0, .int (nI L3x.length)])), (q3x, .inl (T 3, m3x, .inl a3x)), (g9, .inl (T 4, 4, .inr (.inr (.inr (.inr (va_up (va_up (va_up (va_up (fun _ => none) 0 (some (x.1 3))) 1 (some (x.1 4))) 2 (some (x.1 5))) 3 (some (x.1 6))))))))] [(b9, .inr (11, [.ref q3x, .int 0, .int 0, .int (nI L3x.length)])), (q3x, .inl (T 3, m3x, .inl a3x))] [(b9, .inr (11, [.ref q3x, .int 0, .int 0, .int (nI L3x.length)])), (q3x, .inl (T 3, m3x, .inl a3x)), (g9, .inl (T 4, 4, .inr (.inr (.inr (.inr (va_up (va_up (va_up (va_up (fun _ => none) 0 (some (x.1 3))) 1 (some (x.1 4))) 2 (some (x.1 5))) 3 (some (x.1 6))))))))] [(b9, .inr (11, [.ref q3x, .int 0, .int 0, .int (nI L3x.length)])), (q3x, .inl (T 3, m3x, .inl a3x))] := Foc.suf [(b9, .inr (11, [.ref q3x, .int 0, .int 0, .int (nI L3x.length)])), (q3x, .inl (T 3, m3x, .inl a3x))] [(b9, .inr (11, [.ref q3x, .int 0, .int 0, .int (nI L3x.length)])), (q3x, .inl (T 3, m3x, .inl a3x))] [(g9, .inl (T 4, 4, .inr (.inr (.inr (.inr (va_up (va_up (va_up (va_up (fun _ => none) 0 (some (x.1 3))) 1 (some (x.1 4))) 2 (some (x.1 5))) 3 (some (x.1 6))))))))]
                      refine jtr (S := Nat × Nat × (Nat → Int32)) (ws1 := fun u => ([(u.1, .inr (10, [.ref u.2.1, .int 0, .int 0, .int 0])), (b9, .inr (11, [.ref q3x, .int 0, .int 0, .int (nI L3x.length)])), (q3x, .inl (T 3, m3x, .inl a3x)), (u.2.1, .inl (T 3, L3x.length, .inl u.2.2))] ++ [(g9, .inl (T 4, 4, .inr (.inr (.inr (.inr (va_up (va_up (va_up (va_up (fun _ => none) 0 (some (x.1 3))) 1 (some (x.1 4))) 2 (some (x.1 5))) 3 (some (x.1 6))))))))] : va_W)) (wc1 := fun u => ([(u.1, .inr (10, [.ref u.2.1, .int 0, .int 0, .int 0])), (b9, .inr (11, [.ref q3x, .int 0, .int 0, .int (nI L3x.length)])), (q3x, .inl (T 3, m3x, .inl a3x)), (u.2.1, .inl (T 3, L3x.length, .inl u.2.2))] : va_W)) (ru := fun u => u.1) (va_runV (C := RJ4) (b := b9) (As := []) (rest := []) ⟨hx, hb, hml, hown, hts⟩ (c_J4_toString_0e30d l D T x b9 q3x m3x L3x.length a3x hmL3x hqL3x hfL3x _) (cwV 0 hts (gCJ gj75V_RL_208_J4_toString_0e30d) rfl rfl rfl (by decide +kernel) ⟨Nat.le_of_ble_eq_true rfl, Nat.le_of_ble_eq_true rfl⟩) ⟨JP.blind _ _ _ _ _ _, va_recv (ci := 11) (q0 := 0) hK ((hF0).subP hP) rfl rfl, jpre (As := [.ref (b9)]) hF0 hX hK hP hD hS hA⟩ rfl rfl hl.1 rfl (lv_room (m := m) (pc := 320) (ls := ls) (rest := [.ref (b9)]) (st := []) (Nat.le_of_ble_eq_true rfl)) dL_window_320 ⟨by show _ ≤ 170; omega, by show _ ≤ 130000; omega⟩) (fun u => Foc.suf [(b9, .inr (11, [.ref q3x, .int 0, .int 0, .int (nI L3x.length)])), (q3x, .inl (T 3, m3x, .inl a3x))] [(u.1, .inr (10, [.ref u.2.1, .int 0, .int 0, .int 0])), (b9, .inr (11, [.ref q3x, .int 0, .int 0, .int (nI L3x.length)])), (q3x, .inl (T 3, m3x, .inl a3x)), (u.2.1, .inl (T 3, L3x.length, .inl u.2.2))] [(g9, .inl (T 4, 4, .inr (.inr (.inr (.inr (va_up (va_up (va_up (va_up (fun _ => none) 0 (some (x.1 3))) 1 (some (x.1 4))) 2 (some (x.1 5))) 3 (some (x.1 6))))))))]) (hF0) hP hD hS hA (fun u H locs hr hP hD hS => ?_)
                      obtain ⟨r8, q8, a8⟩ := u
                      have hP : va_P D vwCl ([(r8, .inr (10, [.ref q8, .int 0, .int 0, .int 0])), (b9, .inr (11, [.ref q3x, .int 0, .int 0, .int (nI L3x.length)])), (q3x, .inl (T 3, m3x, .inl a3x)), (q8, .inl (T 3, L3x.length, .inl a8)), (g9, .inl (T 4, 4, .inr (.inr (.inr (.inr (va_up (va_up (va_up (va_up (fun _ => none) 0 (some (x.1 3))) 1 (some (x.1 4))) 2 (some (x.1 5))) 3 (some (x.1 6))))))))]) H := hP
                      have hD : va_D A ([(r8, .inr (10, [.ref q8, .int 0, .int 0, .int 0])), (b9, .inr (11, [.ref q3x, .int 0, .int 0, .int (nI L3x.length)])), (q3x, .inl (T 3, m3x, .inl a3x)), (q8, .inl (T 3, L3x.length, .inl a8)), (g9, .inl (T 4, 4, .inr (.inr (.inr (.inr (va_up (va_up (va_up (va_up (fun _ => none) 0 (some (x.1 3))) 1 (some (x.1 4))) 2 (some (x.1 5))) 3 (some (x.1 6))))))))]) := hD
                      have hP : va_P D vwCl [(r8, .inr (10, [.ref q8, .int 0, .int 0, .int 0])), (q8, .inl (T 3, L3x.length, .inl a8))] H := hP.sub [0, 3] rfl
                      have hD : va_D A [(r8, .inr (10, [.ref q8, .int 0, .int 0, .int 0])), (q8, .inl (T 3, L3x.length, .inl a8))] := hD.sub [0, 3] rfl rfl
                      exact hret _ _ _ _ _ _ (r8, q8, a8, L3x) dL_window_323 (⟨⟨d1, d2, d3, cl, ck, cp, ⟨by omega, by omega, by omega, ⟨by omega, by omega, hz1⟩, ⟨by omega, hz2⟩, by omega, hz3⟩, by rw [hL3x, hL2x, hL119, hL1x, hL57, hL52, hL42, hL37, hL24, hL19, hL6]; rfl⟩, by show L3x.length ≤ 384; omega, fun i hi => (hr.2 i hi).trans (hbL3x i hi), hr.1⟩) hP hD hS (by omega) (by omega)
                    ·
                      have c237 : ¬ NN ≤ k3 := fun h9 => c237 ((nI_leI (a := NN) (b := k3) (by omega) (by omega)).mpr h9)
                      refine lv_iload_n hx hb dL_window_240 rfl (lv_at hl 2 rfl) ?_
                      refine lv_ldc (v := 1103515245) hx hb hown kmw_1048 dL_window_241 ?_
                      refine lv_imul hx hb dL_window_243 ?_
                      refine lv_sipush (v := 12345) hx hb dL_window_244 (by decide) ?_
                      refine lv_iadd hx hb dL_window_247 ?_
                      obtain ⟨y7, hy7⟩ : ∃ d, d = y3 * 1103515245 + 12345 := ⟨_, rfl⟩
                      refine endI (r := y7) (hy7.symm) ?_
                      refine lv_istore_n (lv' := [(3, .int (y7)), (5, .int (nI k3)), (4, .ref (g9)), (2, .ref (b9)), (0, .int (nI ww)), (1, .int (nI vv))]) hx hb dL_window_248 rfl hl (by decide) rfl (fun ls hl => ?_)
                      refine lv_aload_n hx hb dL_window_249 rfl (lv_at hl 3 rfl) ?_
                      refine va_ldcS hx hb hown (hX.2.1 7 (by decide)) dL_window_250 ?_
                      have hj252 : (jL 7).length ≤ 10 := (jL_ok 7 (by omega)).1
                      have hk252 : (jL 7).length = 10 := rfl
                      have hF0 : Foc [(b9, .inr (11, [.ref q3x, .int 0, .int 0, .int (nI L3x.length)])), (q3x, .inl (T 3, m3x, .inl a3x)), (g9, .inl (T 4, 4, .inr (.inr (.inr (.inr (va_up (va_up (va_up (va_up (fun _ => none) 0 (some (x.1 3))) 1 (some (x.1 4))) 2 (some (x.1 5))) 3 (some (x.1 6))))))))] [(b9, .inr (11, [.ref q3x, .int 0, .int 0, .int (nI L3x.length)])), (q3x, .inl (T 3, m3x, .inl a3x))] [(b9, .inr (11, [.ref q3x, .int 0, .int 0, .int (nI L3x.length)])), (q3x, .inl (T 3, m3x, .inl a3x)), (g9, .inl (T 4, 4, .inr (.inr (.inr (.inr (va_up (va_up (va_up (va_up (fun _ => none) 0 (some (x.1 3))) 1 (some (x.1 4))) 2 (some (x.1 5))) 3 (some (x.1 6))))))))] [(b9, .inr (11, [.ref q3x, .int 0, .int 0, .int (nI L3x.length)])), (q3x, .inl (T 3, m3x, .inl a3x))] := Foc.suf [(b9, .inr (11, [.ref q3x, .int 0, .int 0, .int (nI L3x.length)])), (q3x, .inl (T 3, m3x, .inl a3x))] [(b9, .inr (11, [.ref q3x, .int 0, .int 0, .int (nI L3x.length)])), (q3x, .inl (T 3, m3x, .inl a3x))] [(g9, .inl (T 4, 4, .inr (.inr (.inr (.inr (va_up (va_up (va_up (va_up (fun _ => none) 0 (some (x.1 3))) 1 (some (x.1 4))) 2 (some (x.1 5))) 3 (some (x.1 6))))))))]
                      refine jtr (S := SBU) (ws1 := fun u => ([(b9, .inr (11, [.ref u.1, .int 0, .int 0, .int (nI (L3x.length + (jL 7).length))])), (u.1, .inl (T 3, u.2.1, .inl u.2.2))] ++ [(g9, .inl (T 4, 4, .inr (.inr (.inr (.inr (va_up (va_up (va_up (va_up (fun _ => none) 0 (some (x.1 3))) 1 (some (x.1 4))) 2 (some (x.1 5))) 3 (some (x.1 6))))))))] : va_W)) (wc1 := fun u => ([(b9, .inr (11, [.ref u.1, .int 0, .int 0, .int (nI (L3x.length + (jL 7).length))])), (u.1, .inl (T 3, u.2.1, .inl u.2.2))] : va_W)) (ru := fun u => b9) (va_runV (C := RJ4) (b := b9) (As := [.ref (x.1 7)]) (rest := []) ⟨hx, hb, hml, hown, hts⟩ (c_J4_append_15ec4 l D T x b9 q3x m3x L3x.length 7 a3x (by omega) hmL3x hqL3x (by omega) hfL3x _) (cwV 1 hts (gCJ gj75V_RL_192_J4_append_15ec4) rfl rfl rfl (by decide +kernel) ⟨Nat.le_of_ble_eq_true rfl, Nat.le_of_ble_eq_true rfl⟩) ⟨JP.blind _ _ _ _ _ _, va_recv (ci := 11) (q0 := 0) hK ((hF0).subP hP) rfl rfl, jpre (As := [.ref (b9), .ref (x.1 7)]) hF0 hX hK hP hD hS hA⟩ rfl rfl hl.1 rfl (lv_room (m := m) (pc := 252) (ls := ls) (rest := [.ref (x.1 7), .ref (b9)]) (st := []) (Nat.le_of_ble_eq_true rfl)) dL_window_252 ⟨by show _ ≤ 170; omega, by show _ ≤ 130000; omega⟩) (fun u => Foc.suf [(b9, .inr (11, [.ref q3x, .int 0, .int 0, .int (nI L3x.length)])), (q3x, .inl (T 3, m3x, .inl a3x))] [(b9, .inr (11, [.ref u.1, .int 0, .int 0, .int (nI (L3x.length + (jL 7).length))])), (u.1, .inl (T 3, u.2.1, .inl u.2.2))] [(g9, .inl (T 4, 4, .inr (.inr (.inr (.inr (va_up (va_up (va_up (va_up (fun _ => none) 0 (some (x.1 3))) 1 (some (x.1 4))) 2 (some (x.1 5))) 3 (some (x.1 6))))))))]) (hF0) hP hD hS hA (fun u H locs hr hP hD hS => ?_)
                      obtain ⟨q252, m252, a252⟩ := u
                      have hP : va_P D vwCl ([(b9, .inr (11, [.ref q252, .int 0, .int 0, .int (nI (L3x.length + (jL 7).length))])), (q252, .inl (T 3, m252, .inl a252)), (g9, .inl (T 4, 4, .inr (.inr (.inr (.inr (va_up (va_up (va_up (va_up (fun _ => none) 0 (some (x.1 3))) 1 (some (x.1 4))) 2 (some (x.1 5))) 3 (some (x.1 6))))))))]) H := hP
                      have hD : va_D A ([(b9, .inr (11, [.ref q252, .int 0, .int 0, .int (nI (L3x.length + (jL 7).length))])), (q252, .inl (T 3, m252, .inl a252)), (g9, .inl (T 4, 4, .inr (.inr (.inr (.inr (va_up (va_up (va_up (va_up (fun _ => none) 0 (some (x.1 3))) 1 (some (x.1 4))) 2 (some (x.1 5))) 3 (some (x.1 6))))))))]) := hD
                      have hb252 : BL (L3x ++ jL 7) a252 := sbi_M hbL3x hr.2.2.2.1 (fun j hj => hr.2.2.2.2 j hj)
                      have e252 : (L3x ++ jL 7).length = L3x.length + (jL 7).length := List.length_append
                      rw [← e252] at hP hD
                      obtain ⟨L252, hL252⟩ : ∃ L9, L9 = L3x ++ jL 7 := ⟨_, rfl⟩
                      rw [← hL252] at hP hD hb252 e252
                      have hqL252 : L252.length ≤ m252 := by rw [e252]; exact hr.1
                      have hmL252 : m252 ≤ 798 := hr.2.1
                      have hfL252 : sb_Fit a252 := hr.2.2.1
                      have hbL252 := hb252
                      clear hr hb252
                      have hP : va_P D vwCl ([(b9, .inr (11, [.ref q252, .int 0, .int 0, .int (nI L252.length)])), (q252, .inl (T 3, m252, .inl a252)), (g9, .inl (T 4, 4, .inr (.inr (.inr (.inr (va_up (va_up (va_up (va_up (fun _ => none) 0 (some (x.1 3))) 1 (some (x.1 4))) 2 (some (x.1 5))) 3 (some (x.1 6))))))))]) H := hP
                      have hD : va_D A ([(b9, .inr (11, [.ref q252, .int 0, .int 0, .int (nI L252.length)])), (q252, .inl (T 3, m252, .inl a252)), (g9, .inl (T 4, 4, .inr (.inr (.inr (.inr (va_up (va_up (va_up (va_up (fun _ => none) 0 (some (x.1 3))) 1 (some (x.1 4))) 2 (some (x.1 5))) 3 (some (x.1 6))))))))]) := hD
                      refine lv_iconst (v := 5) hx hb dL_window_255 (by decide) ?_
                      refine lv_iload hx hb dL_window_256 (lv_at hl 1 rfl) ?_
                      refine lv_imul hx hb dL_window_258 ?_
                      refine endI (r := nI (5 * k3)) (pk_mul _ _) ?_
                      refine lv_iload_n hx hb dL_window_259 rfl (lv_at hl 0 rfl) ?_
                      refine lv_bipush (v := 8) hx hb dL_window_260 (by decide) ?_
                      refine lv_ishr hx hb dL_window_262 ?_
                      refine lv_iconst (v := 3) hx hb dL_window_263 (by decide) ?_
                      refine lv_iand hx hb dL_window_264 ?_
                      obtain ⟨z7, hz7, ez7⟩ := and3 (y7 >>> ((8 : Int32) &&& 31))
                      refine endI (r := nI z7) (ez7) ?_
                      refine lv_iadd hx hb dL_window_265 ?_
                      obtain ⟨p7, hp7⟩ : ∃ d, d = 5 * k3 + z7 := ⟨_, rfl⟩
                      refine endI (r := nI p7) (by rw [hp7]; exact nI_add _ _) ?_
                      have hd266 : dgN p7 ≤ 2 := dgN_2 _
                      have hF0 : Foc [(b9, .inr (11, [.ref q252, .int 0, .int 0, .int (nI L252.length)])), (q252, .inl (T 3, m252, .inl a252)), (g9, .inl (T 4, 4, .inr (.inr (.inr (.inr (va_up (va_up (va_up (va_up (fun _ => none) 0 (some (x.1 3))) 1 (some (x.1 4))) 2 (some (x.1 5))) 3 (some (x.1 6))))))))] [(b9, .inr (11, [.ref q252, .int 0, .int 0, .int (nI L252.length)])), (q252, .inl (T 3, m252, .inl a252))] [(b9, .inr (11, [.ref q252, .int 0, .int 0, .int (nI L252.length)])), (q252, .inl (T 3, m252, .inl a252)), (g9, .inl (T 4, 4, .inr (.inr (.inr (.inr (va_up (va_up (va_up (va_up (fun _ => none) 0 (some (x.1 3))) 1 (some (x.1 4))) 2 (some (x.1 5))) 3 (some (x.1 6))))))))] [(b9, .inr (11, [.ref q252, .int 0, .int 0, .int (nI L252.length)])), (q252, .inl (T 3, m252, .inl a252))] := Foc.suf [(b9, .inr (11, [.ref q252, .int 0, .int 0, .int (nI L252.length)])), (q252, .inl (T 3, m252, .inl a252))] [(b9, .inr (11, [.ref q252, .int 0, .int 0, .int (nI L252.length)])), (q252, .inl (T 3, m252, .inl a252))] [(g9, .inl (T 4, 4, .inr (.inr (.inr (.inr (va_up (va_up (va_up (va_up (fun _ => none) 0 (some (x.1 3))) 1 (some (x.1 4))) 2 (some (x.1 5))) 3 (some (x.1 6))))))))]
                      refine jtr (S := SBU) (ws1 := fun u => ([(b9, .inr (11, [.ref u.1, .int 0, .int 0, .int (nI (L252.length + dgN p7))])), (u.1, .inl (T 3, u.2.1, .inl u.2.2))] ++ [(g9, .inl (T 4, 4, .inr (.inr (.inr (.inr (va_up (va_up (va_up (va_up (fun _ => none) 0 (some (x.1 3))) 1 (some (x.1 4))) 2 (some (x.1 5))) 3 (some (x.1 6))))))))] : va_W)) (wc1 := fun u => ([(b9, .inr (11, [.ref u.1, .int 0, .int 0, .int (nI (L252.length + dgN p7))])), (u.1, .inl (T 3, u.2.1, .inl u.2.2))] : va_W)) (ru := fun u => b9) (va_runV (C := RJ4) (b := b9) (As := [.int (nI p7)]) (rest := []) ⟨hx, hb, hml, hown, hts⟩ (c_J4_append_bf812 l D T x b9 q252 m252 L252.length p7 a252 (by omega) hmL252 hqL252 (by omega) hfL252 _) (cwV 1 hts (gCJ gj75V_RL_184_J4_append_bf812) rfl rfl rfl (by decide +kernel) ⟨Nat.le_of_ble_eq_true rfl, Nat.le_of_ble_eq_true rfl⟩) ⟨JP.blind _ _ _ _ _ _, va_recv (ci := 11) (q0 := 0) hK ((hF0).subP hP) rfl rfl, jpre (As := [.ref (b9), .int (nI p7)]) hF0 hX hK hP hD hS hA⟩ rfl rfl hl.1 rfl (lv_room (m := m) (pc := 266) (ls := ls) (rest := [.int (nI p7), .ref (b9)]) (st := []) (Nat.le_of_ble_eq_true rfl)) dL_window_266 ⟨by show _ ≤ 170; omega, by show _ ≤ 130000; omega⟩) (fun u => Foc.suf [(b9, .inr (11, [.ref q252, .int 0, .int 0, .int (nI L252.length)])), (q252, .inl (T 3, m252, .inl a252))] [(b9, .inr (11, [.ref u.1, .int 0, .int 0, .int (nI (L252.length + dgN p7))])), (u.1, .inl (T 3, u.2.1, .inl u.2.2))] [(g9, .inl (T 4, 4, .inr (.inr (.inr (.inr (va_up (va_up (va_up (va_up (fun _ => none) 0 (some (x.1 3))) 1 (some (x.1 4))) 2 (some (x.1 5))) 3 (some (x.1 6))))))))]) (hF0) hP hD hS hA (fun u H locs hr hP hD hS => ?_)
                      obtain ⟨q266, m266, a266⟩ := u
                      have hP : va_P D vwCl ([(b9, .inr (11, [.ref q266, .int 0, .int 0, .int (nI (L252.length + dgN p7))])), (q266, .inl (T 3, m266, .inl a266)), (g9, .inl (T 4, 4, .inr (.inr (.inr (.inr (va_up (va_up (va_up (va_up (fun _ => none) 0 (some (x.1 3))) 1 (some (x.1 4))) 2 (some (x.1 5))) 3 (some (x.1 6))))))))]) H := hP
                      have hD : va_D A ([(b9, .inr (11, [.ref q266, .int 0, .int 0, .int (nI (L252.length + dgN p7))])), (q266, .inl (T 3, m266, .inl a266)), (g9, .inl (T 4, 4, .inr (.inr (.inr (.inr (va_up (va_up (va_up (va_up (fun _ => none) 0 (some (x.1 3))) 1 (some (x.1 4))) 2 (some (x.1 5))) 3 (some (x.1 6))))))))]) := hD
                      have hb266 : BL (L252 ++ dgL p7) a266 := sbi_M hbL252 hr.2.2.2.1 (fun j hj => hr.2.2.2.2 j (by rw [dgL_len] at hj; exact hj))
                      have e266 : (L252 ++ dgL p7).length = L252.length + dgN p7 := by rw [List.length_append, dgL_len]
                      rw [← e266] at hP hD
                      obtain ⟨L266, hL266⟩ : ∃ L9, L9 = L252 ++ dgL p7 := ⟨_, rfl⟩
                      rw [← hL266] at hP hD hb266 e266
                      have hqL266 : L266.length ≤ m266 := by rw [e266]; exact hr.1
                      have hmL266 : m266 ≤ 798 := hr.2.1
                      have hfL266 : sb_Fit a266 := hr.2.2.1
                      have hbL266 := hb266
                      clear hr hb266
                      have hP : va_P D vwCl ([(b9, .inr (11, [.ref q266, .int 0, .int 0, .int (nI L266.length)])), (q266, .inl (T 3, m266, .inl a266)), (g9, .inl (T 4, 4, .inr (.inr (.inr (.inr (va_up (va_up (va_up (va_up (fun _ => none) 0 (some (x.1 3))) 1 (some (x.1 4))) 2 (some (x.1 5))) 3 (some (x.1 6))))))))]) H := hP
                      have hD : va_D A ([(b9, .inr (11, [.ref q266, .int 0, .int 0, .int (nI L266.length)])), (q266, .inl (T 3, m266, .inl a266)), (g9, .inl (T 4, 4, .inr (.inr (.inr (.inr (va_up (va_up (va_up (va_up (fun _ => none) 0 (some (x.1 3))) 1 (some (x.1 4))) 2 (some (x.1 5))) 3 (some (x.1 6))))))))]) := hD
                      refine lv_bipush (v := 32) hx hb dL_window_269 (by decide) ?_
                      have hF0 : Foc [(b9, .inr (11, [.ref q266, .int 0, .int 0, .int (nI L266.length)])), (q266, .inl (T 3, m266, .inl a266)), (g9, .inl (T 4, 4, .inr (.inr (.inr (.inr (va_up (va_up (va_up (va_up (fun _ => none) 0 (some (x.1 3))) 1 (some (x.1 4))) 2 (some (x.1 5))) 3 (some (x.1 6))))))))] [(b9, .inr (11, [.ref q266, .int 0, .int 0, .int (nI L266.length)])), (q266, .inl (T 3, m266, .inl a266))] [(b9, .inr (11, [.ref q266, .int 0, .int 0, .int (nI L266.length)])), (q266, .inl (T 3, m266, .inl a266)), (g9, .inl (T 4, 4, .inr (.inr (.inr (.inr (va_up (va_up (va_up (va_up (fun _ => none) 0 (some (x.1 3))) 1 (some (x.1 4))) 2 (some (x.1 5))) 3 (some (x.1 6))))))))] [(b9, .inr (11, [.ref q266, .int 0, .int 0, .int (nI L266.length)])), (q266, .inl (T 3, m266, .inl a266))] := Foc.suf [(b9, .inr (11, [.ref q266, .int 0, .int 0, .int (nI L266.length)])), (q266, .inl (T 3, m266, .inl a266))] [(b9, .inr (11, [.ref q266, .int 0, .int 0, .int (nI L266.length)])), (q266, .inl (T 3, m266, .inl a266))] [(g9, .inl (T 4, 4, .inr (.inr (.inr (.inr (va_up (va_up (va_up (va_up (fun _ => none) 0 (some (x.1 3))) 1 (some (x.1 4))) 2 (some (x.1 5))) 3 (some (x.1 6))))))))]
                      refine jtr (S := SBU) (ws1 := fun u => ([(b9, .inr (11, [.ref u.1, .int 0, .int 0, .int (nI (L266.length + 1))])), (u.1, .inl (T 3, u.2.1, .inl u.2.2))] ++ [(g9, .inl (T 4, 4, .inr (.inr (.inr (.inr (va_up (va_up (va_up (va_up (fun _ => none) 0 (some (x.1 3))) 1 (some (x.1 4))) 2 (some (x.1 5))) 3 (some (x.1 6))))))))] : va_W)) (wc1 := fun u => ([(b9, .inr (11, [.ref u.1, .int 0, .int 0, .int (nI (L266.length + 1))])), (u.1, .inl (T 3, u.2.1, .inl u.2.2))] : va_W)) (ru := fun u => b9) (va_runV (C := RJ4) (b := b9) (As := [.int (32)]) (rest := []) ⟨hx, hb, hml, hown, hts⟩ (c_J4_append_cf468 l D T x b9 q266 m266 L266.length 32 a266 (by decide) hmL266 hqL266 (by omega) hfL266 _) (cwV 1 hts (gCJ gj75V_RL_187_J4_append_cf468) rfl rfl rfl (by decide +kernel) ⟨Nat.le_of_ble_eq_true rfl, Nat.le_of_ble_eq_true rfl⟩) ⟨JP.blind _ _ _ _ _ _, va_recv (ci := 11) (q0 := 0) hK ((hF0).subP hP) rfl rfl, jpre (As := [.ref (b9), .int (32)]) hF0 hX hK hP hD hS hA⟩ rfl rfl hl.1 rfl (lv_room (m := m) (pc := 271) (ls := ls) (rest := [.int (32), .ref (b9)]) (st := []) (Nat.le_of_ble_eq_true rfl)) dL_window_271 ⟨by show _ ≤ 170; omega, by show _ ≤ 130000; omega⟩) (fun u => Foc.suf [(b9, .inr (11, [.ref q266, .int 0, .int 0, .int (nI L266.length)])), (q266, .inl (T 3, m266, .inl a266))] [(b9, .inr (11, [.ref u.1, .int 0, .int 0, .int (nI (L266.length + 1))])), (u.1, .inl (T 3, u.2.1, .inl u.2.2))] [(g9, .inl (T 4, 4, .inr (.inr (.inr (.inr (va_up (va_up (va_up (va_up (fun _ => none) 0 (some (x.1 3))) 1 (some (x.1 4))) 2 (some (x.1 5))) 3 (some (x.1 6))))))))]) (hF0) hP hD hS hA (fun u H locs hr hP hD hS => ?_)
                      obtain ⟨q271, m271, a271⟩ := u
                      have hP : va_P D vwCl ([(b9, .inr (11, [.ref q271, .int 0, .int 0, .int (nI (L266.length + 1))])), (q271, .inl (T 3, m271, .inl a271)), (g9, .inl (T 4, 4, .inr (.inr (.inr (.inr (va_up (va_up (va_up (va_up (fun _ => none) 0 (some (x.1 3))) 1 (some (x.1 4))) 2 (some (x.1 5))) 3 (some (x.1 6))))))))]) H := hP
                      have hD : va_D A ([(b9, .inr (11, [.ref q271, .int 0, .int 0, .int (nI (L266.length + 1))])), (q271, .inl (T 3, m271, .inl a271)), (g9, .inl (T 4, 4, .inr (.inr (.inr (.inr (va_up (va_up (va_up (va_up (fun _ => none) 0 (some (x.1 3))) 1 (some (x.1 4))) 2 (some (x.1 5))) 3 (some (x.1 6))))))))]) := hD
                      have hb271 : BL (L266 ++ [32]) a271 := sbi_M hbL266 hr.2.2.2.1 (sb_one hr.2.2.2.2)
                      have e271 : (L266 ++ [32]).length = L266.length + 1 := List.length_append
                      rw [← e271] at hP hD
                      obtain ⟨L271, hL271⟩ : ∃ L9, L9 = L266 ++ [32] := ⟨_, rfl⟩
                      rw [← hL271] at hP hD hb271 e271
                      have hqL271 : L271.length ≤ m271 := by rw [e271]; exact hr.1
                      have hmL271 : m271 ≤ 798 := hr.2.1
                      have hfL271 : sb_Fit a271 := hr.2.2.1
                      have hbL271 := hb271
                      clear hr hb271
                      have hP : va_P D vwCl ([(b9, .inr (11, [.ref q271, .int 0, .int 0, .int (nI L271.length)])), (q271, .inl (T 3, m271, .inl a271)), (g9, .inl (T 4, 4, .inr (.inr (.inr (.inr (va_up (va_up (va_up (va_up (fun _ => none) 0 (some (x.1 3))) 1 (some (x.1 4))) 2 (some (x.1 5))) 3 (some (x.1 6))))))))]) H := hP
                      have hD : va_D A ([(b9, .inr (11, [.ref q271, .int 0, .int 0, .int (nI L271.length)])), (q271, .inl (T 3, m271, .inl a271)), (g9, .inl (T 4, 4, .inr (.inr (.inr (.inr (va_up (va_up (va_up (va_up (fun _ => none) 0 (some (x.1 3))) 1 (some (x.1 4))) 2 (some (x.1 5))) 3 (some (x.1 6))))))))]) := hD
                      refine lv_aload hx hb dL_window_274 (lv_at hl 2 rfl) ?_
                      refine lv_iload_n hx hb dL_window_276 rfl (lv_at hl 0 rfl) ?_
                      refine lv_bipush (v := 11) hx hb dL_window_277 (by decide) ?_
                      refine lv_ishr hx hb dL_window_279 ?_
                      refine lv_iconst (v := 3) hx hb dL_window_280 (by decide) ?_
                      refine lv_iand hx hb dL_window_281 ?_
                      obtain ⟨z8, hz8, ez8⟩ := and3 (y7 >>> ((11 : Int32) &&& 31))
                      refine endI (r := nI z8) (ez8) ?_
                      refine va_aldq hx hb hK hP 2 4 rfl rfl (vp_in_nI (n := z8) (by omega) (by decide)) dL_window_282 ?_
                      rw [nI_clamp (n := z8) (by omega), arr_at z8 hz8]
                      have hj283 : (jL ((3 + z8))).length ≤ 10 := (jL_ok ((3 + z8)) (by omega)).1
                      have hk283 := jL_sort hz8
                      have hF0 : Foc [(b9, .inr (11, [.ref q271, .int 0, .int 0, .int (nI L271.length)])), (q271, .inl (T 3, m271, .inl a271)), (g9, .inl (T 4, 4, .inr (.inr (.inr (.inr (va_up (va_up (va_up (va_up (fun _ => none) 0 (some (x.1 3))) 1 (some (x.1 4))) 2 (some (x.1 5))) 3 (some (x.1 6))))))))] [(b9, .inr (11, [.ref q271, .int 0, .int 0, .int (nI L271.length)])), (q271, .inl (T 3, m271, .inl a271))] [(b9, .inr (11, [.ref q271, .int 0, .int 0, .int (nI L271.length)])), (q271, .inl (T 3, m271, .inl a271)), (g9, .inl (T 4, 4, .inr (.inr (.inr (.inr (va_up (va_up (va_up (va_up (fun _ => none) 0 (some (x.1 3))) 1 (some (x.1 4))) 2 (some (x.1 5))) 3 (some (x.1 6))))))))] [(b9, .inr (11, [.ref q271, .int 0, .int 0, .int (nI L271.length)])), (q271, .inl (T 3, m271, .inl a271))] := Foc.suf [(b9, .inr (11, [.ref q271, .int 0, .int 0, .int (nI L271.length)])), (q271, .inl (T 3, m271, .inl a271))] [(b9, .inr (11, [.ref q271, .int 0, .int 0, .int (nI L271.length)])), (q271, .inl (T 3, m271, .inl a271))] [(g9, .inl (T 4, 4, .inr (.inr (.inr (.inr (va_up (va_up (va_up (va_up (fun _ => none) 0 (some (x.1 3))) 1 (some (x.1 4))) 2 (some (x.1 5))) 3 (some (x.1 6))))))))]
                      refine jtr (S := SBU) (ws1 := fun u => ([(b9, .inr (11, [.ref u.1, .int 0, .int 0, .int (nI (L271.length + (jL ((3 + z8))).length))])), (u.1, .inl (T 3, u.2.1, .inl u.2.2))] ++ [(g9, .inl (T 4, 4, .inr (.inr (.inr (.inr (va_up (va_up (va_up (va_up (fun _ => none) 0 (some (x.1 3))) 1 (some (x.1 4))) 2 (some (x.1 5))) 3 (some (x.1 6))))))))] : va_W)) (wc1 := fun u => ([(b9, .inr (11, [.ref u.1, .int 0, .int 0, .int (nI (L271.length + (jL ((3 + z8))).length))])), (u.1, .inl (T 3, u.2.1, .inl u.2.2))] : va_W)) (ru := fun u => b9) (va_runV (C := RJ4) (b := b9) (As := [.ref (x.1 (3 + z8))]) (rest := []) ⟨hx, hb, hml, hown, hts⟩ (c_J4_append_15ec4 l D T x b9 q271 m271 L271.length ((3 + z8)) a271 (by omega) hmL271 hqL271 (by omega) hfL271 _) (cwV 1 hts (gCJ gj75V_RL_192_J4_append_15ec4) rfl rfl rfl (by decide +kernel) ⟨Nat.le_of_ble_eq_true rfl, Nat.le_of_ble_eq_true rfl⟩) ⟨JP.blind _ _ _ _ _ _, va_recv (ci := 11) (q0 := 0) hK ((hF0).subP hP) rfl rfl, jpre (As := [.ref (b9), .ref (x.1 (3 + z8))]) hF0 hX hK hP hD hS hA⟩ rfl rfl hl.1 rfl (lv_room (m := m) (pc := 283) (ls := ls) (rest := [.ref (x.1 (3 + z8)), .ref (b9)]) (st := []) (Nat.le_of_ble_eq_true rfl)) dL_window_283 ⟨by show _ ≤ 170; omega, by show _ ≤ 130000; omega⟩) (fun u => Foc.suf [(b9, .inr (11, [.ref q271, .int 0, .int 0, .int (nI L271.length)])), (q271, .inl (T 3, m271, .inl a271))] [(b9, .inr (11, [.ref u.1, .int 0, .int 0, .int (nI (L271.length + (jL ((3 + z8))).length))])), (u.1, .inl (T 3, u.2.1, .inl u.2.2))] [(g9, .inl (T 4, 4, .inr (.inr (.inr (.inr (va_up (va_up (va_up (va_up (fun _ => none) 0 (some (x.1 3))) 1 (some (x.1 4))) 2 (some (x.1 5))) 3 (some (x.1 6))))))))]) (hF0) hP hD hS hA (fun u H locs hr hP hD hS => ?_)
                      obtain ⟨q283, m283, a283⟩ := u
                      have hP : va_P D vwCl ([(b9, .inr (11, [.ref q283, .int 0, .int 0, .int (nI (L271.length + (jL ((3 + z8))).length))])), (q283, .inl (T 3, m283, .inl a283)), (g9, .inl (T 4, 4, .inr (.inr (.inr (.inr (va_up (va_up (va_up (va_up (fun _ => none) 0 (some (x.1 3))) 1 (some (x.1 4))) 2 (some (x.1 5))) 3 (some (x.1 6))))))))]) H := hP
                      have hD : va_D A ([(b9, .inr (11, [.ref q283, .int 0, .int 0, .int (nI (L271.length + (jL ((3 + z8))).length))])), (q283, .inl (T 3, m283, .inl a283)), (g9, .inl (T 4, 4, .inr (.inr (.inr (.inr (va_up (va_up (va_up (va_up (fun _ => none) 0 (some (x.1 3))) 1 (some (x.1 4))) 2 (some (x.1 5))) 3 (some (x.1 6))))))))]) := hD
                      have hb283 : BL (L271 ++ jL ((3 + z8))) a283 := sbi_M hbL271 hr.2.2.2.1 (fun j hj => hr.2.2.2.2 j hj)
                      have e283 : (L271 ++ jL ((3 + z8))).length = L271.length + (jL ((3 + z8))).length := List.length_append
                      rw [← e283] at hP hD
                      obtain ⟨L283, hL283⟩ : ∃ L9, L9 = L271 ++ jL ((3 + z8)) := ⟨_, rfl⟩
                      rw [← hL283] at hP hD hb283 e283
                      have hqL283 : L283.length ≤ m283 := by rw [e283]; exact hr.1
                      have hmL283 : m283 ≤ 798 := hr.2.1
                      have hfL283 : sb_Fit a283 := hr.2.2.1
                      have hbL283 := hb283
                      clear hr hb283
                      have hP : va_P D vwCl ([(b9, .inr (11, [.ref q283, .int 0, .int 0, .int (nI L283.length)])), (q283, .inl (T 3, m283, .inl a283)), (g9, .inl (T 4, 4, .inr (.inr (.inr (.inr (va_up (va_up (va_up (va_up (fun _ => none) 0 (some (x.1 3))) 1 (some (x.1 4))) 2 (some (x.1 5))) 3 (some (x.1 6))))))))]) H := hP
                      have hD : va_D A ([(b9, .inr (11, [.ref q283, .int 0, .int 0, .int (nI L283.length)])), (q283, .inl (T 3, m283, .inl a283)), (g9, .inl (T 4, 4, .inr (.inr (.inr (.inr (va_up (va_up (va_up (va_up (fun _ => none) 0 (some (x.1 3))) 1 (some (x.1 4))) 2 (some (x.1 5))) 3 (some (x.1 6))))))))]) := hD
                      refine lv_bipush (v := 32) hx hb dL_window_286 (by decide) ?_
                      have hF0 : Foc [(b9, .inr (11, [.ref q283, .int 0, .int 0, .int (nI L283.length)])), (q283, .inl (T 3, m283, .inl a283)), (g9, .inl (T 4, 4, .inr (.inr (.inr (.inr (va_up (va_up (va_up (va_up (fun _ => none) 0 (some (x.1 3))) 1 (some (x.1 4))) 2 (some (x.1 5))) 3 (some (x.1 6))))))))] [(b9, .inr (11, [.ref q283, .int 0, .int 0, .int (nI L283.length)])), (q283, .inl (T 3, m283, .inl a283))] [(b9, .inr (11, [.ref q283, .int 0, .int 0, .int (nI L283.length)])), (q283, .inl (T 3, m283, .inl a283)), (g9, .inl (T 4, 4, .inr (.inr (.inr (.inr (va_up (va_up (va_up (va_up (fun _ => none) 0 (some (x.1 3))) 1 (some (x.1 4))) 2 (some (x.1 5))) 3 (some (x.1 6))))))))] [(b9, .inr (11, [.ref q283, .int 0, .int 0, .int (nI L283.length)])), (q283, .inl (T 3, m283, .inl a283))] := Foc.suf [(b9, .inr (11, [.ref q283, .int 0, .int 0, .int (nI L283.length)])), (q283, .inl (T 3, m283, .inl a283))] [(b9, .inr (11, [.ref q283, .int 0, .int 0, .int (nI L283.length)])), (q283, .inl (T 3, m283, .inl a283))] [(g9, .inl (T 4, 4, .inr (.inr (.inr (.inr (va_up (va_up (va_up (va_up (fun _ => none) 0 (some (x.1 3))) 1 (some (x.1 4))) 2 (some (x.1 5))) 3 (some (x.1 6))))))))]
                      refine jtr (S := SBU) (ws1 := fun u => ([(b9, .inr (11, [.ref u.1, .int 0, .int 0, .int (nI (L283.length + 1))])), (u.1, .inl (T 3, u.2.1, .inl u.2.2))] ++ [(g9, .inl (T 4, 4, .inr (.inr (.inr (.inr (va_up (va_up (va_up (va_up (fun _ => none) 0 (some (x.1 3))) 1 (some (x.1 4))) 2 (some (x.1 5))) 3 (some (x.1 6))))))))] : va_W)) (wc1 := fun u => ([(b9, .inr (11, [.ref u.1, .int 0, .int 0, .int (nI (L283.length + 1))])), (u.1, .inl (T 3, u.2.1, .inl u.2.2))] : va_W)) (ru := fun u => b9) (va_runV (C := RJ4) (b := b9) (As := [.int (32)]) (rest := []) ⟨hx, hb, hml, hown, hts⟩ (c_J4_append_cf468 l D T x b9 q283 m283 L283.length 32 a283 (by decide) hmL283 hqL283 (by omega) hfL283 _) (cwV 1 hts (gCJ gj75V_RL_187_J4_append_cf468) rfl rfl rfl (by decide +kernel) ⟨Nat.le_of_ble_eq_true rfl, Nat.le_of_ble_eq_true rfl⟩) ⟨JP.blind _ _ _ _ _ _, va_recv (ci := 11) (q0 := 0) hK ((hF0).subP hP) rfl rfl, jpre (As := [.ref (b9), .int (32)]) hF0 hX hK hP hD hS hA⟩ rfl rfl hl.1 rfl (lv_room (m := m) (pc := 288) (ls := ls) (rest := [.int (32), .ref (b9)]) (st := []) (Nat.le_of_ble_eq_true rfl)) dL_window_288 ⟨by show _ ≤ 170; omega, by show _ ≤ 130000; omega⟩) (fun u => Foc.suf [(b9, .inr (11, [.ref q283, .int 0, .int 0, .int (nI L283.length)])), (q283, .inl (T 3, m283, .inl a283))] [(b9, .inr (11, [.ref u.1, .int 0, .int 0, .int (nI (L283.length + 1))])), (u.1, .inl (T 3, u.2.1, .inl u.2.2))] [(g9, .inl (T 4, 4, .inr (.inr (.inr (.inr (va_up (va_up (va_up (va_up (fun _ => none) 0 (some (x.1 3))) 1 (some (x.1 4))) 2 (some (x.1 5))) 3 (some (x.1 6))))))))]) (hF0) hP hD hS hA (fun u H locs hr hP hD hS => ?_)
                      obtain ⟨q288, m288, a288⟩ := u
                      have hP : va_P D vwCl ([(b9, .inr (11, [.ref q288, .int 0, .int 0, .int (nI (L283.length + 1))])), (q288, .inl (T 3, m288, .inl a288)), (g9, .inl (T 4, 4, .inr (.inr (.inr (.inr (va_up (va_up (va_up (va_up (fun _ => none) 0 (some (x.1 3))) 1 (some (x.1 4))) 2 (some (x.1 5))) 3 (some (x.1 6))))))))]) H := hP
                      have hD : va_D A ([(b9, .inr (11, [.ref q288, .int 0, .int 0, .int (nI (L283.length + 1))])), (q288, .inl (T 3, m288, .inl a288)), (g9, .inl (T 4, 4, .inr (.inr (.inr (.inr (va_up (va_up (va_up (va_up (fun _ => none) 0 (some (x.1 3))) 1 (some (x.1 4))) 2 (some (x.1 5))) 3 (some (x.1 6))))))))]) := hD
                      have hb288 : BL (L283 ++ [32]) a288 := sbi_M hbL283 hr.2.2.2.1 (sb_one hr.2.2.2.2)
                      have e288 : (L283 ++ [32]).length = L283.length + 1 := List.length_append
                      rw [← e288] at hP hD
                      obtain ⟨L288, hL288⟩ : ∃ L9, L9 = L283 ++ [32] := ⟨_, rfl⟩
                      rw [← hL288] at hP hD hb288 e288
                      have hqL288 : L288.length ≤ m288 := by rw [e288]; exact hr.1
                      have hmL288 : m288 ≤ 798 := hr.2.1
                      have hfL288 : sb_Fit a288 := hr.2.2.1
                      have hbL288 := hb288
                      clear hr hb288
                      have hP : va_P D vwCl ([(b9, .inr (11, [.ref q288, .int 0, .int 0, .int (nI L288.length)])), (q288, .inl (T 3, m288, .inl a288)), (g9, .inl (T 4, 4, .inr (.inr (.inr (.inr (va_up (va_up (va_up (va_up (fun _ => none) 0 (some (x.1 3))) 1 (some (x.1 4))) 2 (some (x.1 5))) 3 (some (x.1 6))))))))]) H := hP
                      have hD : va_D A ([(b9, .inr (11, [.ref q288, .int 0, .int 0, .int (nI L288.length)])), (q288, .inl (T 3, m288, .inl a288)), (g9, .inl (T 4, 4, .inr (.inr (.inr (.inr (va_up (va_up (va_up (va_up (fun _ => none) 0 (some (x.1 3))) 1 (some (x.1 4))) 2 (some (x.1 5))) 3 (some (x.1 6))))))))]) := hD
                      refine lv_iconst (v := 1) hx hb dL_window_291 (by decide) ?_
                      refine lv_iload_n hx hb dL_window_292 rfl (lv_at hl 0 rfl) ?_
                      refine lv_bipush (v := 13) hx hb dL_window_293 (by decide) ?_
                      refine lv_ishr hx hb dL_window_295 ?_
                      refine lv_sipush (v := 255) hx hb dL_window_296 (by decide) ?_
                      refine lv_iand hx hb dL_window_299 ?_
                      refine lv_bipush (v := 9) hx hb dL_window_300 (by decide) ?_
                      refine lv_irem hx hb dL_window_302 (by decide) ?_
                      obtain ⟨r7, hzr7, ezr7⟩ := rng (y := y7 >>> ((13 : Int32) &&& 31)) (d := 9) (by decide) (by decide)
                      refine endI (r := nI r7) (ezr7) ?_
                      refine lv_iadd hx hb dL_window_303 ?_
                      obtain ⟨r6, hr6⟩ : ∃ d, d = 1 + r7 := ⟨_, rfl⟩
                      have hr6b : 1 ≤ r6 ∧ r6 ≤ 9 := by omega
                      refine endI (r := nI r6) (by rw [hr6]; exact nI_add 1 r7) ?_
                      have hd304 : dgN r6 ≤ 2 := dgN_2 _
                      have he304 : dgN r6 = 1 := if_pos (by omega)
                      have hF0 : Foc [(b9, .inr (11, [.ref q288, .int 0, .int 0, .int (nI L288.length)])), (q288, .inl (T 3, m288, .inl a288)), (g9, .inl (T 4, 4, .inr (.inr (.inr (.inr (va_up (va_up (va_up (va_up (fun _ => none) 0 (some (x.1 3))) 1 (some (x.1 4))) 2 (some (x.1 5))) 3 (some (x.1 6))))))))] [(b9, .inr (11, [.ref q288, .int 0, .int 0, .int (nI L288.length)])), (q288, .inl (T 3, m288, .inl a288))] [(b9, .inr (11, [.ref q288, .int 0, .int 0, .int (nI L288.length)])), (q288, .inl (T 3, m288, .inl a288)), (g9, .inl (T 4, 4, .inr (.inr (.inr (.inr (va_up (va_up (va_up (va_up (fun _ => none) 0 (some (x.1 3))) 1 (some (x.1 4))) 2 (some (x.1 5))) 3 (some (x.1 6))))))))] [(b9, .inr (11, [.ref q288, .int 0, .int 0, .int (nI L288.length)])), (q288, .inl (T 3, m288, .inl a288))] := Foc.suf [(b9, .inr (11, [.ref q288, .int 0, .int 0, .int (nI L288.length)])), (q288, .inl (T 3, m288, .inl a288))] [(b9, .inr (11, [.ref q288, .int 0, .int 0, .int (nI L288.length)])), (q288, .inl (T 3, m288, .inl a288))] [(g9, .inl (T 4, 4, .inr (.inr (.inr (.inr (va_up (va_up (va_up (va_up (fun _ => none) 0 (some (x.1 3))) 1 (some (x.1 4))) 2 (some (x.1 5))) 3 (some (x.1 6))))))))]
                      refine jtr (S := SBU) (ws1 := fun u => ([(b9, .inr (11, [.ref u.1, .int 0, .int 0, .int (nI (L288.length + dgN r6))])), (u.1, .inl (T 3, u.2.1, .inl u.2.2))] ++ [(g9, .inl (T 4, 4, .inr (.inr (.inr (.inr (va_up (va_up (va_up (va_up (fun _ => none) 0 (some (x.1 3))) 1 (some (x.1 4))) 2 (some (x.1 5))) 3 (some (x.1 6))))))))] : va_W)) (wc1 := fun u => ([(b9, .inr (11, [.ref u.1, .int 0, .int 0, .int (nI (L288.length + dgN r6))])), (u.1, .inl (T 3, u.2.1, .inl u.2.2))] : va_W)) (ru := fun u => b9) (va_runV (C := RJ4) (b := b9) (As := [.int (nI r6)]) (rest := []) ⟨hx, hb, hml, hown, hts⟩ (c_J4_append_bf812 l D T x b9 q288 m288 L288.length r6 a288 (by omega) hmL288 hqL288 (by omega) hfL288 _) (cwV 1 hts (gCJ gj75V_RL_184_J4_append_bf812) rfl rfl rfl (by decide +kernel) ⟨Nat.le_of_ble_eq_true rfl, Nat.le_of_ble_eq_true rfl⟩) ⟨JP.blind _ _ _ _ _ _, va_recv (ci := 11) (q0 := 0) hK ((hF0).subP hP) rfl rfl, jpre (As := [.ref (b9), .int (nI r6)]) hF0 hX hK hP hD hS hA⟩ rfl rfl hl.1 rfl (lv_room (m := m) (pc := 304) (ls := ls) (rest := [.int (nI r6), .ref (b9)]) (st := []) (Nat.le_of_ble_eq_true rfl)) dL_window_304 ⟨by show _ ≤ 170; omega, by show _ ≤ 130000; omega⟩) (fun u => Foc.suf [(b9, .inr (11, [.ref q288, .int 0, .int 0, .int (nI L288.length)])), (q288, .inl (T 3, m288, .inl a288))] [(b9, .inr (11, [.ref u.1, .int 0, .int 0, .int (nI (L288.length + dgN r6))])), (u.1, .inl (T 3, u.2.1, .inl u.2.2))] [(g9, .inl (T 4, 4, .inr (.inr (.inr (.inr (va_up (va_up (va_up (va_up (fun _ => none) 0 (some (x.1 3))) 1 (some (x.1 4))) 2 (some (x.1 5))) 3 (some (x.1 6))))))))]) (hF0) hP hD hS hA (fun u H locs hr hP hD hS => ?_)
                      obtain ⟨q304, m304, a304⟩ := u
                      have hP : va_P D vwCl ([(b9, .inr (11, [.ref q304, .int 0, .int 0, .int (nI (L288.length + dgN r6))])), (q304, .inl (T 3, m304, .inl a304)), (g9, .inl (T 4, 4, .inr (.inr (.inr (.inr (va_up (va_up (va_up (va_up (fun _ => none) 0 (some (x.1 3))) 1 (some (x.1 4))) 2 (some (x.1 5))) 3 (some (x.1 6))))))))]) H := hP
                      have hD : va_D A ([(b9, .inr (11, [.ref q304, .int 0, .int 0, .int (nI (L288.length + dgN r6))])), (q304, .inl (T 3, m304, .inl a304)), (g9, .inl (T 4, 4, .inr (.inr (.inr (.inr (va_up (va_up (va_up (va_up (fun _ => none) 0 (some (x.1 3))) 1 (some (x.1 4))) 2 (some (x.1 5))) 3 (some (x.1 6))))))))]) := hD
                      have hb304 : BL (L288 ++ dgL r6) a304 := sbi_M hbL288 hr.2.2.2.1 (fun j hj => hr.2.2.2.2 j (by rw [dgL_len] at hj; exact hj))
                      have e304 : (L288 ++ dgL r6).length = L288.length + dgN r6 := by rw [List.length_append, dgL_len]
                      rw [← e304] at hP hD
                      obtain ⟨L304, hL304⟩ : ∃ L9, L9 = L288 ++ dgL r6 := ⟨_, rfl⟩
                      rw [← hL304] at hP hD hb304 e304
                      have hqL304 : L304.length ≤ m304 := by rw [e304]; exact hr.1
                      have hmL304 : m304 ≤ 798 := hr.2.1
                      have hfL304 : sb_Fit a304 := hr.2.2.1
                      have hbL304 := hb304
                      clear hr hb304
                      have hP : va_P D vwCl ([(b9, .inr (11, [.ref q304, .int 0, .int 0, .int (nI L304.length)])), (q304, .inl (T 3, m304, .inl a304)), (g9, .inl (T 4, 4, .inr (.inr (.inr (.inr (va_up (va_up (va_up (va_up (fun _ => none) 0 (some (x.1 3))) 1 (some (x.1 4))) 2 (some (x.1 5))) 3 (some (x.1 6))))))))]) H := hP
                      have hD : va_D A ([(b9, .inr (11, [.ref q304, .int 0, .int 0, .int (nI L304.length)])), (q304, .inl (T 3, m304, .inl a304)), (g9, .inl (T 4, 4, .inr (.inr (.inr (.inr (va_up (va_up (va_up (va_up (fun _ => none) 0 (some (x.1 3))) 1 (some (x.1 4))) 2 (some (x.1 5))) 3 (some (x.1 6))))))))]) := hD
                      refine lv_bipush (v := 59) hx hb dL_window_307 (by decide) ?_
                      have hF0 : Foc [(b9, .inr (11, [.ref q304, .int 0, .int 0, .int (nI L304.length)])), (q304, .inl (T 3, m304, .inl a304)), (g9, .inl (T 4, 4, .inr (.inr (.inr (.inr (va_up (va_up (va_up (va_up (fun _ => none) 0 (some (x.1 3))) 1 (some (x.1 4))) 2 (some (x.1 5))) 3 (some (x.1 6))))))))] [(b9, .inr (11, [.ref q304, .int 0, .int 0, .int (nI L304.length)])), (q304, .inl (T 3, m304, .inl a304))] [(b9, .inr (11, [.ref q304, .int 0, .int 0, .int (nI L304.length)])), (q304, .inl (T 3, m304, .inl a304)), (g9, .inl (T 4, 4, .inr (.inr (.inr (.inr (va_up (va_up (va_up (va_up (fun _ => none) 0 (some (x.1 3))) 1 (some (x.1 4))) 2 (some (x.1 5))) 3 (some (x.1 6))))))))] [(b9, .inr (11, [.ref q304, .int 0, .int 0, .int (nI L304.length)])), (q304, .inl (T 3, m304, .inl a304))] := Foc.suf [(b9, .inr (11, [.ref q304, .int 0, .int 0, .int (nI L304.length)])), (q304, .inl (T 3, m304, .inl a304))] [(b9, .inr (11, [.ref q304, .int 0, .int 0, .int (nI L304.length)])), (q304, .inl (T 3, m304, .inl a304))] [(g9, .inl (T 4, 4, .inr (.inr (.inr (.inr (va_up (va_up (va_up (va_up (fun _ => none) 0 (some (x.1 3))) 1 (some (x.1 4))) 2 (some (x.1 5))) 3 (some (x.1 6))))))))]
                      refine jtr (S := SBU) (ws1 := fun u => ([(b9, .inr (11, [.ref u.1, .int 0, .int 0, .int (nI (L304.length + 1))])), (u.1, .inl (T 3, u.2.1, .inl u.2.2))] ++ [(g9, .inl (T 4, 4, .inr (.inr (.inr (.inr (va_up (va_up (va_up (va_up (fun _ => none) 0 (some (x.1 3))) 1 (some (x.1 4))) 2 (some (x.1 5))) 3 (some (x.1 6))))))))] : va_W)) (wc1 := fun u => ([(b9, .inr (11, [.ref u.1, .int 0, .int 0, .int (nI (L304.length + 1))])), (u.1, .inl (T 3, u.2.1, .inl u.2.2))] : va_W)) (ru := fun u => b9) (va_runV (C := RJ4) (b := b9) (As := [.int (59)]) (rest := []) ⟨hx, hb, hml, hown, hts⟩ (c_J4_append_cf468 l D T x b9 q304 m304 L304.length 59 a304 (by decide) hmL304 hqL304 (by omega) hfL304 _) (cwV 1 hts (gCJ gj75V_RL_187_J4_append_cf468) rfl rfl rfl (by decide +kernel) ⟨Nat.le_of_ble_eq_true rfl, Nat.le_of_ble_eq_true rfl⟩) ⟨JP.blind _ _ _ _ _ _, va_recv (ci := 11) (q0 := 0) hK ((hF0).subP hP) rfl rfl, jpre (As := [.ref (b9), .int (59)]) hF0 hX hK hP hD hS hA⟩ rfl rfl hl.1 rfl (lv_room (m := m) (pc := 309) (ls := ls) (rest := [.int (59), .ref (b9)]) (st := []) (Nat.le_of_ble_eq_true rfl)) dL_window_309 ⟨by show _ ≤ 170; omega, by show _ ≤ 130000; omega⟩) (fun u => Foc.suf [(b9, .inr (11, [.ref q304, .int 0, .int 0, .int (nI L304.length)])), (q304, .inl (T 3, m304, .inl a304))] [(b9, .inr (11, [.ref u.1, .int 0, .int 0, .int (nI (L304.length + 1))])), (u.1, .inl (T 3, u.2.1, .inl u.2.2))] [(g9, .inl (T 4, 4, .inr (.inr (.inr (.inr (va_up (va_up (va_up (va_up (fun _ => none) 0 (some (x.1 3))) 1 (some (x.1 4))) 2 (some (x.1 5))) 3 (some (x.1 6))))))))]) (hF0) hP hD hS hA (fun u H locs hr hP hD hS => ?_)
                      obtain ⟨q309, m309, a309⟩ := u
                      have hP : va_P D vwCl ([(b9, .inr (11, [.ref q309, .int 0, .int 0, .int (nI (L304.length + 1))])), (q309, .inl (T 3, m309, .inl a309)), (g9, .inl (T 4, 4, .inr (.inr (.inr (.inr (va_up (va_up (va_up (va_up (fun _ => none) 0 (some (x.1 3))) 1 (some (x.1 4))) 2 (some (x.1 5))) 3 (some (x.1 6))))))))]) H := hP
                      have hD : va_D A ([(b9, .inr (11, [.ref q309, .int 0, .int 0, .int (nI (L304.length + 1))])), (q309, .inl (T 3, m309, .inl a309)), (g9, .inl (T 4, 4, .inr (.inr (.inr (.inr (va_up (va_up (va_up (va_up (fun _ => none) 0 (some (x.1 3))) 1 (some (x.1 4))) 2 (some (x.1 5))) 3 (some (x.1 6))))))))]) := hD
                      have hb309 : BL (L304 ++ [59]) a309 := sbi_M hbL304 hr.2.2.2.1 (sb_one hr.2.2.2.2)
                      have e309 : (L304 ++ [59]).length = L304.length + 1 := List.length_append
                      rw [← e309] at hP hD
                      obtain ⟨L309, hL309⟩ : ∃ L9, L9 = L304 ++ [59] := ⟨_, rfl⟩
                      rw [← hL309] at hP hD hb309 e309
                      have hqL309 : L309.length ≤ m309 := by rw [e309]; exact hr.1
                      have hmL309 : m309 ≤ 798 := hr.2.1
                      have hfL309 : sb_Fit a309 := hr.2.2.1
                      have hbL309 := hb309
                      clear hr hb309
                      have hP : va_P D vwCl ([(b9, .inr (11, [.ref q309, .int 0, .int 0, .int (nI L309.length)])), (q309, .inl (T 3, m309, .inl a309)), (g9, .inl (T 4, 4, .inr (.inr (.inr (.inr (va_up (va_up (va_up (va_up (fun _ => none) 0 (some (x.1 3))) 1 (some (x.1 4))) 2 (some (x.1 5))) 3 (some (x.1 6))))))))]) H := hP
                      have hD : va_D A ([(b9, .inr (11, [.ref q309, .int 0, .int 0, .int (nI L309.length)])), (q309, .inl (T 3, m309, .inl a309)), (g9, .inl (T 4, 4, .inr (.inr (.inr (.inr (va_up (va_up (va_up (va_up (fun _ => none) 0 (some (x.1 3))) 1 (some (x.1 4))) 2 (some (x.1 5))) 3 (some (x.1 6))))))))]) := hD
                      refine lv_pop hx hb dL_window_312 rfl ?_
                      refine lv_iinc (v := nI (k3 + 1)) (lv' := [(5, .int (nI (k3 + 1))), (3, .int (y7)), (4, .ref (g9)), (2, .ref (b9)), (0, .int (nI ww)), (1, .int (nI vv))]) hx hb dL_window_313 hl (k := 1) rfl (nI_add _ _) (by decide) rfl (fun ls hl => ?_)
                      refine lv_goto (tgt := 228) hx hb dL_window_316 (by decide) ?_
                      exact ih228 (k3 + 1) y7 q309 m309 a309 L309 ((cp ++ [(p7, z8, r6)])) _ _ (by omega) (by omega) (by exact hqL309) (by exact hmL309) (by exact hbL309) (by exact hfL309) (by rw [hL309, hL304, hL288, hL283, hL271, hL266, hL252, hL3x, cpT_snoc]; simp) (by rw [List.length_append, hc3]; rfl) (by exact CPOK.snoc hz3 (by rw [hc3]; omega) (by rw [hc3]; omega) (by omega) (by omega) (by omega)) (by omega) (by omega) (by omega) _ _ _ hP hD hS (lv_sub hl [0, 2, 1, 3, 4, 5] rfl)
                exact L228 _ 0 y2 q2x m2x a2x L2x ([]) _ _ (Nat.lt_succ_self _) (by omega) (by exact hqL2x) (by exact hmL2x) (by exact hbL2x) (by exact hfL2x) (by exact (List.append_nil _).symm) (by rfl) (by exact fun k y h => by cases h) (by omega) (by omega) (by omega) _ _ _ hP hD hS (lv_sub hl [0, 1, 2, 3, 4, 5] rfl)
              ·
                have c134 : ¬ NK ≤ k2 := fun h9 => c134 ((nI_leI (a := NK) (b := k2) (by omega) (by omega)).mpr h9)
                refine lv_iload_n hx hb dL_window_137 rfl (lv_at hl 1 rfl) ?_
                refine lv_ldc (v := 1103515245) hx hb hown kmw_1048 dL_window_138 ?_
                refine lv_imul hx hb dL_window_140 ?_
                refine lv_sipush (v := 12345) hx hb dL_window_141 (by decide) ?_
                refine lv_iadd hx hb dL_window_144 ?_
                obtain ⟨y6, hy6⟩ : ∃ d, d = y2 * 1103515245 + 12345 := ⟨_, rfl⟩
                refine endI (r := y6) (hy6.symm) ?_
                refine lv_istore_n (lv' := [(3, .int (y6)), (4, .int (nI k2)), (2, .ref (b9)), (0, .int (nI ww)), (1, .int (nI vv))]) hx hb dL_window_145 rfl hl (by decide) rfl (fun ls hl => ?_)
                refine lv_aload_n hx hb dL_window_146 rfl (lv_at hl 2 rfl) ?_
                refine va_ldcS hx hb hown (hX.2.1 2 (by decide)) dL_window_147 ?_
                have hj149 : (jL 2).length ≤ 10 := (jL_ok 2 (by omega)).1
                have hk149 : (jL 2).length = 6 := rfl
                have hF0 : Foc [(b9, .inr (11, [.ref q2x, .int 0, .int 0, .int (nI L2x.length)])), (q2x, .inl (T 3, m2x, .inl a2x))] [(b9, .inr (11, [.ref q2x, .int 0, .int 0, .int (nI L2x.length)])), (q2x, .inl (T 3, m2x, .inl a2x))] [(b9, .inr (11, [.ref q2x, .int 0, .int 0, .int (nI L2x.length)])), (q2x, .inl (T 3, m2x, .inl a2x))] [(b9, .inr (11, [.ref q2x, .int 0, .int 0, .int (nI L2x.length)])), (q2x, .inl (T 3, m2x, .inl a2x))] := Foc.rfl _ _
                refine jtr (S := SBU) (ws1 := fun u => ([(b9, .inr (11, [.ref u.1, .int 0, .int 0, .int (nI (L2x.length + (jL 2).length))])), (u.1, .inl (T 3, u.2.1, .inl u.2.2))] : va_W)) (wc1 := fun u => ([(b9, .inr (11, [.ref u.1, .int 0, .int 0, .int (nI (L2x.length + (jL 2).length))])), (u.1, .inl (T 3, u.2.1, .inl u.2.2))] : va_W)) (ru := fun u => b9) (va_runV (C := RJ4) (b := b9) (As := [.ref (x.1 2)]) (rest := []) ⟨hx, hb, hml, hown, hts⟩ (c_J4_append_15ec4 l D T x b9 q2x m2x L2x.length 2 a2x (by omega) hmL2x hqL2x (by omega) hfL2x _) (cwV 1 hts (gCJ gj75V_RL_192_J4_append_15ec4) rfl rfl rfl (by decide +kernel) ⟨Nat.le_of_ble_eq_true rfl, Nat.le_of_ble_eq_true rfl⟩) ⟨JP.blind _ _ _ _ _ _, va_recv (ci := 11) (q0 := 0) hK ((hF0).subP hP) rfl rfl, jpre (As := [.ref (b9), .ref (x.1 2)]) hF0 hX hK hP hD hS hA⟩ rfl rfl hl.1 rfl (lv_room (m := m) (pc := 149) (ls := ls) (rest := [.ref (x.1 2), .ref (b9)]) (st := []) (Nat.le_of_ble_eq_true rfl)) dL_window_149 ⟨by show _ ≤ 170; omega, by show _ ≤ 130000; omega⟩) (fun u => Foc.rfl _ _) (hF0) hP hD hS hA (fun u H locs hr hP hD hS => ?_)
                obtain ⟨q149, m149, a149⟩ := u
                have hP : va_P D vwCl ([(b9, .inr (11, [.ref q149, .int 0, .int 0, .int (nI (L2x.length + (jL 2).length))])), (q149, .inl (T 3, m149, .inl a149))]) H := hP
                have hD : va_D A ([(b9, .inr (11, [.ref q149, .int 0, .int 0, .int (nI (L2x.length + (jL 2).length))])), (q149, .inl (T 3, m149, .inl a149))]) := hD
                have hb149 : BL (L2x ++ jL 2) a149 := sbi_M hbL2x hr.2.2.2.1 (fun j hj => hr.2.2.2.2 j hj)
                have e149 : (L2x ++ jL 2).length = L2x.length + (jL 2).length := List.length_append
                rw [← e149] at hP hD
                obtain ⟨L149, hL149⟩ : ∃ L9, L9 = L2x ++ jL 2 := ⟨_, rfl⟩
                rw [← hL149] at hP hD hb149 e149
                have hqL149 : L149.length ≤ m149 := by rw [e149]; exact hr.1
                have hmL149 : m149 ≤ 798 := hr.2.1
                have hfL149 : sb_Fit a149 := hr.2.2.1
                have hbL149 := hb149
                clear hr hb149
                have hP : va_P D vwCl ([(b9, .inr (11, [.ref q149, .int 0, .int 0, .int (nI L149.length)])), (q149, .inl (T 3, m149, .inl a149))]) H := hP
                have hD : va_D A ([(b9, .inr (11, [.ref q149, .int 0, .int 0, .int (nI L149.length)])), (q149, .inl (T 3, m149, .inl a149))]) := hD
                refine lv_iconst (v := 1) hx hb dL_window_152 (by decide) ?_
                refine lv_iload_n hx hb dL_window_153 rfl (lv_at hl 0 rfl) ?_
                refine lv_bipush (v := 8) hx hb dL_window_154 (by decide) ?_
                refine lv_ishr hx hb dL_window_156 ?_
                refine lv_sipush (v := 255) hx hb dL_window_157 (by decide) ?_
                refine lv_iand hx hb dL_window_160 ?_
                refine lv_bipush (v := 9) hx hb dL_window_161 (by decide) ?_
                refine lv_irem hx hb dL_window_163 (by decide) ?_
                obtain ⟨s5, hzs5, ezs5⟩ := rng (y := y6 >>> ((8 : Int32) &&& 31)) (d := 9) (by decide) (by decide)
                refine endI (r := nI s5) (ezs5) ?_
                refine lv_iadd hx hb dL_window_164 ?_
                obtain ⟨s6, hs6⟩ : ∃ d, d = 1 + s5 := ⟨_, rfl⟩
                have hs6b : 1 ≤ s6 ∧ s6 ≤ 9 := by omega
                refine endI (r := nI s6) (by rw [hs6]; exact nI_add 1 s5) ?_
                have hd165 : dgN s6 ≤ 2 := dgN_2 _
                have he165 : dgN s6 = 1 := if_pos (by omega)
                have hF0 : Foc [(b9, .inr (11, [.ref q149, .int 0, .int 0, .int (nI L149.length)])), (q149, .inl (T 3, m149, .inl a149))] [(b9, .inr (11, [.ref q149, .int 0, .int 0, .int (nI L149.length)])), (q149, .inl (T 3, m149, .inl a149))] [(b9, .inr (11, [.ref q149, .int 0, .int 0, .int (nI L149.length)])), (q149, .inl (T 3, m149, .inl a149))] [(b9, .inr (11, [.ref q149, .int 0, .int 0, .int (nI L149.length)])), (q149, .inl (T 3, m149, .inl a149))] := Foc.rfl _ _
                refine jtr (S := SBU) (ws1 := fun u => ([(b9, .inr (11, [.ref u.1, .int 0, .int 0, .int (nI (L149.length + dgN s6))])), (u.1, .inl (T 3, u.2.1, .inl u.2.2))] : va_W)) (wc1 := fun u => ([(b9, .inr (11, [.ref u.1, .int 0, .int 0, .int (nI (L149.length + dgN s6))])), (u.1, .inl (T 3, u.2.1, .inl u.2.2))] : va_W)) (ru := fun u => b9) (va_runV (C := RJ4) (b := b9) (As := [.int (nI s6)]) (rest := []) ⟨hx, hb, hml, hown, hts⟩ (c_J4_append_bf812 l D T x b9 q149 m149 L149.length s6 a149 (by omega) hmL149 hqL149 (by omega) hfL149 _) (cwV 1 hts (gCJ gj75V_RL_184_J4_append_bf812) rfl rfl rfl (by decide +kernel) ⟨Nat.le_of_ble_eq_true rfl, Nat.le_of_ble_eq_true rfl⟩) ⟨JP.blind _ _ _ _ _ _, va_recv (ci := 11) (q0 := 0) hK ((hF0).subP hP) rfl rfl, jpre (As := [.ref (b9), .int (nI s6)]) hF0 hX hK hP hD hS hA⟩ rfl rfl hl.1 rfl (lv_room (m := m) (pc := 165) (ls := ls) (rest := [.int (nI s6), .ref (b9)]) (st := []) (Nat.le_of_ble_eq_true rfl)) dL_window_165 ⟨by show _ ≤ 170; omega, by show _ ≤ 130000; omega⟩) (fun u => Foc.rfl _ _) (hF0) hP hD hS hA (fun u H locs hr hP hD hS => ?_)
                obtain ⟨q165, m165, a165⟩ := u
                have hP : va_P D vwCl ([(b9, .inr (11, [.ref q165, .int 0, .int 0, .int (nI (L149.length + dgN s6))])), (q165, .inl (T 3, m165, .inl a165))]) H := hP
                have hD : va_D A ([(b9, .inr (11, [.ref q165, .int 0, .int 0, .int (nI (L149.length + dgN s6))])), (q165, .inl (T 3, m165, .inl a165))]) := hD
                have hb165 : BL (L149 ++ dgL s6) a165 := sbi_M hbL149 hr.2.2.2.1 (fun j hj => hr.2.2.2.2 j (by rw [dgL_len] at hj; exact hj))
                have e165 : (L149 ++ dgL s6).length = L149.length + dgN s6 := by rw [List.length_append, dgL_len]
                rw [← e165] at hP hD
                obtain ⟨L165, hL165⟩ : ∃ L9, L9 = L149 ++ dgL s6 := ⟨_, rfl⟩
                rw [← hL165] at hP hD hb165 e165
                have hqL165 : L165.length ≤ m165 := by rw [e165]; exact hr.1
                have hmL165 : m165 ≤ 798 := hr.2.1
                have hfL165 : sb_Fit a165 := hr.2.2.1
                have hbL165 := hb165
                clear hr hb165
                have hP : va_P D vwCl ([(b9, .inr (11, [.ref q165, .int 0, .int 0, .int (nI L165.length)])), (q165, .inl (T 3, m165, .inl a165))]) H := hP
                have hD : va_D A ([(b9, .inr (11, [.ref q165, .int 0, .int 0, .int (nI L165.length)])), (q165, .inl (T 3, m165, .inl a165))]) := hD
                refine lv_bipush (v := 32) hx hb dL_window_168 (by decide) ?_
                have hF0 : Foc [(b9, .inr (11, [.ref q165, .int 0, .int 0, .int (nI L165.length)])), (q165, .inl (T 3, m165, .inl a165))] [(b9, .inr (11, [.ref q165, .int 0, .int 0, .int (nI L165.length)])), (q165, .inl (T 3, m165, .inl a165))] [(b9, .inr (11, [.ref q165, .int 0, .int 0, .int (nI L165.length)])), (q165, .inl (T 3, m165, .inl a165))] [(b9, .inr (11, [.ref q165, .int 0, .int 0, .int (nI L165.length)])), (q165, .inl (T 3, m165, .inl a165))] := Foc.rfl _ _
                refine jtr (S := SBU) (ws1 := fun u => ([(b9, .inr (11, [.ref u.1, .int 0, .int 0, .int (nI (L165.length + 1))])), (u.1, .inl (T 3, u.2.1, .inl u.2.2))] : va_W)) (wc1 := fun u => ([(b9, .inr (11, [.ref u.1, .int 0, .int 0, .int (nI (L165.length + 1))])), (u.1, .inl (T 3, u.2.1, .inl u.2.2))] : va_W)) (ru := fun u => b9) (va_runV (C := RJ4) (b := b9) (As := [.int (32)]) (rest := []) ⟨hx, hb, hml, hown, hts⟩ (c_J4_append_cf468 l D T x b9 q165 m165 L165.length 32 a165 (by decide) hmL165 hqL165 (by omega) hfL165 _) (cwV 1 hts (gCJ gj75V_RL_187_J4_append_cf468) rfl rfl rfl (by decide +kernel) ⟨Nat.le_of_ble_eq_true rfl, Nat.le_of_ble_eq_true rfl⟩) ⟨JP.blind _ _ _ _ _ _, va_recv (ci := 11) (q0 := 0) hK ((hF0).subP hP) rfl rfl, jpre (As := [.ref (b9), .int (32)]) hF0 hX hK hP hD hS hA⟩ rfl rfl hl.1 rfl (lv_room (m := m) (pc := 170) (ls := ls) (rest := [.int (32), .ref (b9)]) (st := []) (Nat.le_of_ble_eq_true rfl)) dL_window_170 ⟨by show _ ≤ 170; omega, by show _ ≤ 130000; omega⟩) (fun u => Foc.rfl _ _) (hF0) hP hD hS hA (fun u H locs hr hP hD hS => ?_)
                obtain ⟨q170, m170, a170⟩ := u
                have hP : va_P D vwCl ([(b9, .inr (11, [.ref q170, .int 0, .int 0, .int (nI (L165.length + 1))])), (q170, .inl (T 3, m170, .inl a170))]) H := hP
                have hD : va_D A ([(b9, .inr (11, [.ref q170, .int 0, .int 0, .int (nI (L165.length + 1))])), (q170, .inl (T 3, m170, .inl a170))]) := hD
                have hb170 : BL (L165 ++ [32]) a170 := sbi_M hbL165 hr.2.2.2.1 (sb_one hr.2.2.2.2)
                have e170 : (L165 ++ [32]).length = L165.length + 1 := List.length_append
                rw [← e170] at hP hD
                obtain ⟨L170, hL170⟩ : ∃ L9, L9 = L165 ++ [32] := ⟨_, rfl⟩
                rw [← hL170] at hP hD hb170 e170
                have hqL170 : L170.length ≤ m170 := by rw [e170]; exact hr.1
                have hmL170 : m170 ≤ 798 := hr.2.1
                have hfL170 : sb_Fit a170 := hr.2.2.1
                have hbL170 := hb170
                clear hr hb170
                have hP : va_P D vwCl ([(b9, .inr (11, [.ref q170, .int 0, .int 0, .int (nI L170.length)])), (q170, .inl (T 3, m170, .inl a170))]) H := hP
                have hD : va_D A ([(b9, .inr (11, [.ref q170, .int 0, .int 0, .int (nI L170.length)])), (q170, .inl (T 3, m170, .inl a170))]) := hD
                refine lv_iload_n hx hb dL_window_173 rfl (lv_at hl 0 rfl) ?_
                refine lv_bipush (v := 12) hx hb dL_window_174 (by decide) ?_
                refine lv_ishr hx hb dL_window_176 ?_
                refine lv_sipush (v := 255) hx hb dL_window_177 (by decide) ?_
                refine lv_iand hx hb dL_window_180 ?_
                refine lv_bipush (v := 100) hx hb dL_window_181 (by decide) ?_
                refine lv_irem hx hb dL_window_183 (by decide) ?_
                obtain ⟨o6, hzo6, ezo6⟩ := rng (y := y6 >>> ((12 : Int32) &&& 31)) (d := 100) (by decide) (by decide)
                refine endI (r := nI o6) (ezo6) ?_
                have hd184 : dgN o6 ≤ 2 := dgN_2 _
                have hF0 : Foc [(b9, .inr (11, [.ref q170, .int 0, .int 0, .int (nI L170.length)])), (q170, .inl (T 3, m170, .inl a170))] [(b9, .inr (11, [.ref q170, .int 0, .int 0, .int (nI L170.length)])), (q170, .inl (T 3, m170, .inl a170))] [(b9, .inr (11, [.ref q170, .int 0, .int 0, .int (nI L170.length)])), (q170, .inl (T 3, m170, .inl a170))] [(b9, .inr (11, [.ref q170, .int 0, .int 0, .int (nI L170.length)])), (q170, .inl (T 3, m170, .inl a170))] := Foc.rfl _ _
                refine jtr (S := SBU) (ws1 := fun u => ([(b9, .inr (11, [.ref u.1, .int 0, .int 0, .int (nI (L170.length + dgN o6))])), (u.1, .inl (T 3, u.2.1, .inl u.2.2))] : va_W)) (wc1 := fun u => ([(b9, .inr (11, [.ref u.1, .int 0, .int 0, .int (nI (L170.length + dgN o6))])), (u.1, .inl (T 3, u.2.1, .inl u.2.2))] : va_W)) (ru := fun u => b9) (va_runV (C := RJ4) (b := b9) (As := [.int (nI o6)]) (rest := []) ⟨hx, hb, hml, hown, hts⟩ (c_J4_append_bf812 l D T x b9 q170 m170 L170.length o6 a170 (by omega) hmL170 hqL170 (by omega) hfL170 _) (cwV 1 hts (gCJ gj75V_RL_184_J4_append_bf812) rfl rfl rfl (by decide +kernel) ⟨Nat.le_of_ble_eq_true rfl, Nat.le_of_ble_eq_true rfl⟩) ⟨JP.blind _ _ _ _ _ _, va_recv (ci := 11) (q0 := 0) hK ((hF0).subP hP) rfl rfl, jpre (As := [.ref (b9), .int (nI o6)]) hF0 hX hK hP hD hS hA⟩ rfl rfl hl.1 rfl (lv_room (m := m) (pc := 184) (ls := ls) (rest := [.int (nI o6), .ref (b9)]) (st := []) (Nat.le_of_ble_eq_true rfl)) dL_window_184 ⟨by show _ ≤ 170; omega, by show _ ≤ 130000; omega⟩) (fun u => Foc.rfl _ _) (hF0) hP hD hS hA (fun u H locs hr hP hD hS => ?_)
                obtain ⟨q184, m184, a184⟩ := u
                have hP : va_P D vwCl ([(b9, .inr (11, [.ref q184, .int 0, .int 0, .int (nI (L170.length + dgN o6))])), (q184, .inl (T 3, m184, .inl a184))]) H := hP
                have hD : va_D A ([(b9, .inr (11, [.ref q184, .int 0, .int 0, .int (nI (L170.length + dgN o6))])), (q184, .inl (T 3, m184, .inl a184))]) := hD
                have hb184 : BL (L170 ++ dgL o6) a184 := sbi_M hbL170 hr.2.2.2.1 (fun j hj => hr.2.2.2.2 j (by rw [dgL_len] at hj; exact hj))
                have e184 : (L170 ++ dgL o6).length = L170.length + dgN o6 := by rw [List.length_append, dgL_len]
                rw [← e184] at hP hD
                obtain ⟨L184, hL184⟩ : ∃ L9, L9 = L170 ++ dgL o6 := ⟨_, rfl⟩
                rw [← hL184] at hP hD hb184 e184
                have hqL184 : L184.length ≤ m184 := by rw [e184]; exact hr.1
                have hmL184 : m184 ≤ 798 := hr.2.1
                have hfL184 : sb_Fit a184 := hr.2.2.1
                have hbL184 := hb184
                clear hr hb184
                have hP : va_P D vwCl ([(b9, .inr (11, [.ref q184, .int 0, .int 0, .int (nI L184.length)])), (q184, .inl (T 3, m184, .inl a184))]) H := hP
                have hD : va_D A ([(b9, .inr (11, [.ref q184, .int 0, .int 0, .int (nI L184.length)])), (q184, .inl (T 3, m184, .inl a184))]) := hD
                refine lv_bipush (v := 59) hx hb dL_window_187 (by decide) ?_
                have hF0 : Foc [(b9, .inr (11, [.ref q184, .int 0, .int 0, .int (nI L184.length)])), (q184, .inl (T 3, m184, .inl a184))] [(b9, .inr (11, [.ref q184, .int 0, .int 0, .int (nI L184.length)])), (q184, .inl (T 3, m184, .inl a184))] [(b9, .inr (11, [.ref q184, .int 0, .int 0, .int (nI L184.length)])), (q184, .inl (T 3, m184, .inl a184))] [(b9, .inr (11, [.ref q184, .int 0, .int 0, .int (nI L184.length)])), (q184, .inl (T 3, m184, .inl a184))] := Foc.rfl _ _
                refine jtr (S := SBU) (ws1 := fun u => ([(b9, .inr (11, [.ref u.1, .int 0, .int 0, .int (nI (L184.length + 1))])), (u.1, .inl (T 3, u.2.1, .inl u.2.2))] : va_W)) (wc1 := fun u => ([(b9, .inr (11, [.ref u.1, .int 0, .int 0, .int (nI (L184.length + 1))])), (u.1, .inl (T 3, u.2.1, .inl u.2.2))] : va_W)) (ru := fun u => b9) (va_runV (C := RJ4) (b := b9) (As := [.int (59)]) (rest := []) ⟨hx, hb, hml, hown, hts⟩ (c_J4_append_cf468 l D T x b9 q184 m184 L184.length 59 a184 (by decide) hmL184 hqL184 (by omega) hfL184 _) (cwV 1 hts (gCJ gj75V_RL_187_J4_append_cf468) rfl rfl rfl (by decide +kernel) ⟨Nat.le_of_ble_eq_true rfl, Nat.le_of_ble_eq_true rfl⟩) ⟨JP.blind _ _ _ _ _ _, va_recv (ci := 11) (q0 := 0) hK ((hF0).subP hP) rfl rfl, jpre (As := [.ref (b9), .int (59)]) hF0 hX hK hP hD hS hA⟩ rfl rfl hl.1 rfl (lv_room (m := m) (pc := 189) (ls := ls) (rest := [.int (59), .ref (b9)]) (st := []) (Nat.le_of_ble_eq_true rfl)) dL_window_189 ⟨by show _ ≤ 170; omega, by show _ ≤ 130000; omega⟩) (fun u => Foc.rfl _ _) (hF0) hP hD hS hA (fun u H locs hr hP hD hS => ?_)
                obtain ⟨q189, m189, a189⟩ := u
                have hP : va_P D vwCl ([(b9, .inr (11, [.ref q189, .int 0, .int 0, .int (nI (L184.length + 1))])), (q189, .inl (T 3, m189, .inl a189))]) H := hP
                have hD : va_D A ([(b9, .inr (11, [.ref q189, .int 0, .int 0, .int (nI (L184.length + 1))])), (q189, .inl (T 3, m189, .inl a189))]) := hD
                have hb189 : BL (L184 ++ [59]) a189 := sbi_M hbL184 hr.2.2.2.1 (sb_one hr.2.2.2.2)
                have e189 : (L184 ++ [59]).length = L184.length + 1 := List.length_append
                rw [← e189] at hP hD
                obtain ⟨L189, hL189⟩ : ∃ L9, L9 = L184 ++ [59] := ⟨_, rfl⟩
                rw [← hL189] at hP hD hb189 e189
                have hqL189 : L189.length ≤ m189 := by rw [e189]; exact hr.1
                have hmL189 : m189 ≤ 798 := hr.2.1
                have hfL189 : sb_Fit a189 := hr.2.2.1
                have hbL189 := hb189
                clear hr hb189
                have hP : va_P D vwCl ([(b9, .inr (11, [.ref q189, .int 0, .int 0, .int (nI L189.length)])), (q189, .inl (T 3, m189, .inl a189))]) H := hP
                have hD : va_D A ([(b9, .inr (11, [.ref q189, .int 0, .int 0, .int (nI L189.length)])), (q189, .inl (T 3, m189, .inl a189))]) := hD
                refine lv_pop hx hb dL_window_192 rfl ?_
                refine lv_iinc (v := nI (k2 + 1)) (lv' := [(4, .int (nI (k2 + 1))), (3, .int (y6)), (2, .ref (b9)), (0, .int (nI ww)), (1, .int (nI vv))]) hx hb dL_window_193 hl (k := 1) rfl (nI_add _ _) (by decide) rfl (fun ls hl => ?_)
                refine lv_goto (tgt := 126) hx hb dL_window_196 (by decide) ?_
                exact ih126 (k2 + 1) y6 q189 m189 a189 L189 ((ck ++ [(s6, o6)])) _ _ (by omega) (by omega) (by exact hqL189) (by exact hmL189) (by exact hbL189) (by exact hfL189) (by rw [hL189, hL184, hL170, hL165, hL149, hL2x, ckT_snoc]; simp) (by rw [List.length_append, hc2]; rfl) (by exact fun z h => (List.mem_append.mp h).elim (hz2 z) (fun h9 => by obtain rfl := List.mem_singleton.mp h9; exact ⟨by show 1 ≤ s6; omega, by show s6 ≤ 9; omega, by show o6 ≤ 99; omega⟩)) (by omega) (by omega) (by omega) _ _ _ hP hD hS (lv_sub hl [0, 1, 2, 3, 4] rfl)
          exact L126 _ 0 y1 q119 m119 a119 L119 ([]) _ _ (Nat.lt_succ_self _) (by omega) (by exact hqL119) (by exact hmL119) (by exact hbL119) (by exact hfL119) (by exact (List.append_nil _).symm) (by rfl) (by exact fun z h => absurd h List.not_mem_nil) (by omega) (by omega) (by omega) _ _ _ hP hD hS (lv_sub hl [0, 1, 2, 3, 4] rfl)
        ·
          have c77 : ¬ NC ≤ k1 := fun h9 => c77 ((nI_leI (a := NC) (b := k1) (by omega) (by omega)).mpr h9)
          refine lv_iload_n hx hb dL_window_80 rfl (lv_at hl 1 rfl) ?_
          refine lv_ldc (v := 1103515245) hx hb hown kmw_1048 dL_window_81 ?_
          refine lv_imul hx hb dL_window_83 ?_
          refine lv_sipush (v := 12345) hx hb dL_window_84 (by decide) ?_
          refine lv_iadd hx hb dL_window_87 ?_
          obtain ⟨y5, hy5⟩ : ∃ d, d = y1 * 1103515245 + 12345 := ⟨_, rfl⟩
          refine endI (r := y5) (hy5.symm) ?_
          refine lv_istore_n (lv' := [(3, .int (y5)), (4, .int (nI k1)), (2, .ref (b9)), (0, .int (nI ww)), (1, .int (nI vv))]) hx hb dL_window_88 rfl hl (by decide) rfl (fun ls hl => ?_)
          refine lv_aload_n hx hb dL_window_89 rfl (lv_at hl 2 rfl) ?_
          refine lv_bipush (v := 32) hx hb dL_window_90 (by decide) ?_
          have hF0 : Foc [(b9, .inr (11, [.ref q1x, .int 0, .int 0, .int (nI L1x.length)])), (q1x, .inl (T 3, m1x, .inl a1x))] [(b9, .inr (11, [.ref q1x, .int 0, .int 0, .int (nI L1x.length)])), (q1x, .inl (T 3, m1x, .inl a1x))] [(b9, .inr (11, [.ref q1x, .int 0, .int 0, .int (nI L1x.length)])), (q1x, .inl (T 3, m1x, .inl a1x))] [(b9, .inr (11, [.ref q1x, .int 0, .int 0, .int (nI L1x.length)])), (q1x, .inl (T 3, m1x, .inl a1x))] := Foc.rfl _ _
          refine jtr (S := SBU) (ws1 := fun u => ([(b9, .inr (11, [.ref u.1, .int 0, .int 0, .int (nI (L1x.length + 1))])), (u.1, .inl (T 3, u.2.1, .inl u.2.2))] : va_W)) (wc1 := fun u => ([(b9, .inr (11, [.ref u.1, .int 0, .int 0, .int (nI (L1x.length + 1))])), (u.1, .inl (T 3, u.2.1, .inl u.2.2))] : va_W)) (ru := fun u => b9) (va_runV (C := RJ4) (b := b9) (As := [.int (32)]) (rest := []) ⟨hx, hb, hml, hown, hts⟩ (c_J4_append_cf468 l D T x b9 q1x m1x L1x.length 32 a1x (by decide) hmL1x hqL1x (by omega) hfL1x _) (cwV 1 hts (gCJ gj75V_RL_187_J4_append_cf468) rfl rfl rfl (by decide +kernel) ⟨Nat.le_of_ble_eq_true rfl, Nat.le_of_ble_eq_true rfl⟩) ⟨JP.blind _ _ _ _ _ _, va_recv (ci := 11) (q0 := 0) hK ((hF0).subP hP) rfl rfl, jpre (As := [.ref (b9), .int (32)]) hF0 hX hK hP hD hS hA⟩ rfl rfl hl.1 rfl (lv_room (m := m) (pc := 92) (ls := ls) (rest := [.int (32), .ref (b9)]) (st := []) (Nat.le_of_ble_eq_true rfl)) dL_window_92 ⟨by show _ ≤ 170; omega, by show _ ≤ 130000; omega⟩) (fun u => Foc.rfl _ _) (hF0) hP hD hS hA (fun u H locs hr hP hD hS => ?_)
          obtain ⟨q92, m92, a92⟩ := u
          have hP : va_P D vwCl ([(b9, .inr (11, [.ref q92, .int 0, .int 0, .int (nI (L1x.length + 1))])), (q92, .inl (T 3, m92, .inl a92))]) H := hP
          have hD : va_D A ([(b9, .inr (11, [.ref q92, .int 0, .int 0, .int (nI (L1x.length + 1))])), (q92, .inl (T 3, m92, .inl a92))]) := hD
          have hb92 : BL (L1x ++ [32]) a92 := sbi_M hbL1x hr.2.2.2.1 (sb_one hr.2.2.2.2)
          have e92 : (L1x ++ [32]).length = L1x.length + 1 := List.length_append
          rw [← e92] at hP hD
          obtain ⟨L92, hL92⟩ : ∃ L9, L9 = L1x ++ [32] := ⟨_, rfl⟩
          rw [← hL92] at hP hD hb92 e92
          have hqL92 : L92.length ≤ m92 := by rw [e92]; exact hr.1
          have hmL92 : m92 ≤ 798 := hr.2.1
          have hfL92 : sb_Fit a92 := hr.2.2.1
          have hbL92 := hb92
          clear hr hb92
          have hP : va_P D vwCl ([(b9, .inr (11, [.ref q92, .int 0, .int 0, .int (nI L92.length)])), (q92, .inl (T 3, m92, .inl a92))]) H := hP
          have hD : va_D A ([(b9, .inr (11, [.ref q92, .int 0, .int 0, .int (nI L92.length)])), (q92, .inl (T 3, m92, .inl a92))]) := hD
          refine lv_iload_n hx hb dL_window_95 rfl (lv_at hl 0 rfl) ?_
          refine lv_bipush (v := 8) hx hb dL_window_96 (by decide) ?_
          refine lv_ishr hx hb dL_window_98 ?_
          refine lv_sipush (v := 255) hx hb dL_window_99 (by decide) ?_
          refine lv_iand hx hb dL_window_102 ?_
          refine lv_bipush (v := 10) hx hb dL_window_103 (by decide) ?_
          refine lv_irem hx hb dL_window_105 (by decide) ?_
          obtain ⟨z5, hzz5, ezz5⟩ := rng (y := y5 >>> ((8 : Int32) &&& 31)) (d := 10) (by decide) (by decide)
          refine endI (r := nI z5) (ezz5) ?_
          have hd106 : dgN z5 ≤ 2 := dgN_2 _
          have he106 : dgN z5 = 1 := if_pos (by omega)
          have hF0 : Foc [(b9, .inr (11, [.ref q92, .int 0, .int 0, .int (nI L92.length)])), (q92, .inl (T 3, m92, .inl a92))] [(b9, .inr (11, [.ref q92, .int 0, .int 0, .int (nI L92.length)])), (q92, .inl (T 3, m92, .inl a92))] [(b9, .inr (11, [.ref q92, .int 0, .int 0, .int (nI L92.length)])), (q92, .inl (T 3, m92, .inl a92))] [(b9, .inr (11, [.ref q92, .int 0, .int 0, .int (nI L92.length)])), (q92, .inl (T 3, m92, .inl a92))] := Foc.rfl _ _
          refine jtr (S := SBU) (ws1 := fun u => ([(b9, .inr (11, [.ref u.1, .int 0, .int 0, .int (nI (L92.length + dgN z5))])), (u.1, .inl (T 3, u.2.1, .inl u.2.2))] : va_W)) (wc1 := fun u => ([(b9, .inr (11, [.ref u.1, .int 0, .int 0, .int (nI (L92.length + dgN z5))])), (u.1, .inl (T 3, u.2.1, .inl u.2.2))] : va_W)) (ru := fun u => b9) (va_runV (C := RJ4) (b := b9) (As := [.int (nI z5)]) (rest := []) ⟨hx, hb, hml, hown, hts⟩ (c_J4_append_bf812 l D T x b9 q92 m92 L92.length z5 a92 (by omega) hmL92 hqL92 (by omega) hfL92 _) (cwV 1 hts (gCJ gj75V_RL_184_J4_append_bf812) rfl rfl rfl (by decide +kernel) ⟨Nat.le_of_ble_eq_true rfl, Nat.le_of_ble_eq_true rfl⟩) ⟨JP.blind _ _ _ _ _ _, va_recv (ci := 11) (q0 := 0) hK ((hF0).subP hP) rfl rfl, jpre (As := [.ref (b9), .int (nI z5)]) hF0 hX hK hP hD hS hA⟩ rfl rfl hl.1 rfl (lv_room (m := m) (pc := 106) (ls := ls) (rest := [.int (nI z5), .ref (b9)]) (st := []) (Nat.le_of_ble_eq_true rfl)) dL_window_106 ⟨by show _ ≤ 170; omega, by show _ ≤ 130000; omega⟩) (fun u => Foc.rfl _ _) (hF0) hP hD hS hA (fun u H locs hr hP hD hS => ?_)
          obtain ⟨q106, m106, a106⟩ := u
          have hP : va_P D vwCl ([(b9, .inr (11, [.ref q106, .int 0, .int 0, .int (nI (L92.length + dgN z5))])), (q106, .inl (T 3, m106, .inl a106))]) H := hP
          have hD : va_D A ([(b9, .inr (11, [.ref q106, .int 0, .int 0, .int (nI (L92.length + dgN z5))])), (q106, .inl (T 3, m106, .inl a106))]) := hD
          have hb106 : BL (L92 ++ dgL z5) a106 := sbi_M hbL92 hr.2.2.2.1 (fun j hj => hr.2.2.2.2 j (by rw [dgL_len] at hj; exact hj))
          have e106 : (L92 ++ dgL z5).length = L92.length + dgN z5 := by rw [List.length_append, dgL_len]
          rw [← e106] at hP hD
          obtain ⟨L106, hL106⟩ : ∃ L9, L9 = L92 ++ dgL z5 := ⟨_, rfl⟩
          rw [← hL106] at hP hD hb106 e106
          have hqL106 : L106.length ≤ m106 := by rw [e106]; exact hr.1
          have hmL106 : m106 ≤ 798 := hr.2.1
          have hfL106 : sb_Fit a106 := hr.2.2.1
          have hbL106 := hb106
          clear hr hb106
          have hP : va_P D vwCl ([(b9, .inr (11, [.ref q106, .int 0, .int 0, .int (nI L106.length)])), (q106, .inl (T 3, m106, .inl a106))]) H := hP
          have hD : va_D A ([(b9, .inr (11, [.ref q106, .int 0, .int 0, .int (nI L106.length)])), (q106, .inl (T 3, m106, .inl a106))]) := hD
          refine lv_pop hx hb dL_window_109 rfl ?_
          refine lv_iinc (v := nI (k1 + 1)) (lv' := [(4, .int (nI (k1 + 1))), (3, .int (y5)), (2, .ref (b9)), (0, .int (nI ww)), (1, .int (nI vv))]) hx hb dL_window_110 hl (k := 1) rfl (nI_add _ _) (by decide) rfl (fun ls hl => ?_)
          refine lv_goto (tgt := 66) hx hb dL_window_113 (by decide) ?_
          exact ih66 (k1 + 1) y5 q106 m106 a106 L106 ((cl ++ [z5])) _ _ (by omega) (by omega) (by exact hqL106) (by exact hmL106) (by exact hbL106) (by exact hfL106) (by rw [hL106, hL92, hL1x, clT_snoc]; simp) (by rw [List.length_append, hc1]; rfl) (by exact fun z h => (List.mem_append.mp h).elim (hz1 z) (fun h9 => by obtain rfl := List.mem_singleton.mp h9; omega)) (by omega) (by omega) (by omega) _ _ _ hP hD hS (lv_sub hl [0, 1, 2, 3, 4] rfl)
    exact L66 _ 0 (nI vv) q57 m57 a57 L57 ([]) _ _ (Nat.lt_succ_self _) (by omega) (by exact hqL57) (by exact hmL57) (by exact hbL57) (by exact hfL57) (by exact (List.append_nil _).symm) (by rfl) (by exact fun z h => absurd h List.not_mem_nil) (by omega) (by omega) (by omega) _ _ _ hP hD hS (lv_sub hl [0, 1, 2, 3, 4] rfl)
  exact hgo _ _ hP hS
