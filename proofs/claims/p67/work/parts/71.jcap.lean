/-! StringBuilder: room -/
def jcap (k m : Nat) : Nat := m + (if k - m < m + 2 then m + 2 else k - m)

theorem mwj71_0 : Cond.lays RJ4 "java/lang/AbstractStringBuilder" "count" "I" ∈ lw_tbl := tb_t5 _ (List.mem_of_getElem? (i := 171) rfl)
theorem mwj71_1 : Cond.lays RJ4 "java/lang/AbstractStringBuilder" "maybeLatin1" "Z" ∈ lw_tbl := tb_t5 _ (List.mem_of_getElem? (i := 169) rfl)
theorem mwj71_2 : Cond.lays RJ4 "java/lang/AbstractStringBuilder" "coder" "B" ∈ lw_tbl := tb_t5 _ (List.mem_of_getElem? (i := 167) rfl)
theorem mwj71_3 : Cond.lays RJ4 "java/lang/AbstractStringBuilder" "value" "[B" ∈ lw_tbl := tb_t5 _ (List.mem_of_getElem? (i := 165) rfl)
theorem mwj71_4 : Cond.methodLink RJ5 104 yJ5_newCapacity_0f7a4 ∈ lw_tbl := tb_t5 _ (List.mem_of_getElem? (i := 81) rfl)
theorem g_RJ4 : GoodIn gJ wsJ40 := show GoodIn gJ [Cond.lays RJ4 "java/lang/AbstractStringBuilder" "value" "[B", Cond.lays RJ4 "java/lang/AbstractStringBuilder" "coder" "B", Cond.lays RJ4 "java/lang/AbstractStringBuilder" "maybeLatin1" "Z", Cond.lays RJ4 "java/lang/AbstractStringBuilder" "count" "I"] from gconJ (gJ_of mwj71_3 rfl) rfl (gconJ (gJ_of mwj71_2 rfl) rfl (gconJ (gJ_of mwj71_1 rfl) rfl (gconJ (gJ_of mwj71_0 rfl) rfl (gnilJ))))
theorem g_RJ0 : GoodIn gJ wsJ00 := gJ_up gw_wsJ00
theorem gj71S_RJ5_114_J8_newLength_cabcc : GoodIn gJ (va_wsS RJ5 114 yJ8_newLength_cabcc vtJ8_newLength_cabcc) := show GoodIn gJ ([Cond.methodLink RJ5 114 yJ8_newLength_cabcc, Cond.static yJ8_newLength_cabcc, Cond.initialized RJ8] ++ vtJ8_newLength_cabcc) from goodIn_app (gconJ (gJ_of mw_473 rfl) rfl (gconJ (gJ_of mw_474 rfl) rfl (gconJ (gJ_of mw_475 rfl) rfl (gnilJ)))) gw_vtJ8_newLength_cabcc
theorem gj71P_RJ5_104_J5_newCapacity_0f7a4 : GoodIn gJ (wsP RJ5 104 RJ4 yJ5_newCapacity_0f7a4 vtJ5_newCapacity_0f7a4) := show GoodIn gJ ([Cond.methodLink RJ5 104 yJ5_newCapacity_0f7a4, Cond.instanceMethod yJ5_newCapacity_0f7a4, Cond.selects RJ4 yJ5_newCapacity_0f7a4 yJ5_newCapacity_0f7a4, Cond.initialized RJ5] ++ vtJ5_newCapacity_0f7a4) from goodIn_app (gconJ (gJ_of mwj71_4 rfl) rfl (gconJ (gJ_of mw_470 rfl) rfl (gconJ sel_yJ5_newCapacity_0f7a4 rfl (gconJ (gJ_of mw_471 rfl) rfl (gnilJ))))) gw_vtJ5_newCapacity_0f7a4
theorem gj71S_RJ5_108_J7_copyOf_9075b : GoodIn gJ (va_wsS RJ5 108 yJ7_copyOf_9075b vtJ7_copyOf_9075b) := show GoodIn gJ ([Cond.methodLink RJ5 108 yJ7_copyOf_9075b, Cond.static yJ7_copyOf_9075b, Cond.initialized RJ7] ++ vtJ7_copyOf_9075b) from goodIn_app (gconJ (gJ_of mw_484 rfl) rfl (gconJ (gJ_of mw_485 rfl) rfl (gconJ (gJ_of mw_486 rfl) rfl (gnilJ)))) gw_vtJ7_copyOf_9075b
set_option maxHeartbeats 4000000 in
set_option maxRecDepth 100000 in
theorem c_J8_newLength_cabcc (l : Launch) (cm ck : Nat) (hm : cm ≤ 798) (hk : cm < ck) (hk2 : ck ≤ 798) : Met l yJ8_newLength_cabcc vtJ8_newLength_cabcc ({ frames := 1, cells := 0, slots := 0, locals := 21 } : Room) (va_Pc [.int (nI cm), .int (nI (ck - cm)), .int (nI (cm + 2))] (fun _ => True)) (QcRead (nI (jcap ck cm))) 0 0 (fun _ => False) := by
  refine metB (cc := cJ8_newLength_cabcc) (maxL := 4) (ty := .int) (by decide) rfl (rfl) (Nat.le_of_ble_eq_true rfl) ?_
  intro p e s m args below meth c Q ls hx hb hml hown hts hB hl hret
  have hown : s.vm.findClass RJ8 = some m.cls := hown
  have hl : lv_has ls 4 [(0, .int (nI cm)), (1, .int (nI (ck - cm))), (2, .int (nI (cm + 2)))] := hl
  have kmw_476 := hts (Cond.methodLink RJ8 194 Lib.Math.max.name) (List.mem_cons_of_mem _ (gJ_of mw_476 rfl))
  have kmw_477 := hts (Cond.static Lib.Math.max.name) (List.mem_cons_of_mem _ (gJ_of mw_477 rfl))
  have kmw_478 := hts (Cond.initialized "java/lang/Math") (List.mem_cons_of_mem _ (gJ_of mw_478 rfl))
  have kmw_479 := hts (Cond.code Lib.Math.max.name Lib.Math.max.code 2 (some .int)) (List.mem_cons_of_mem _ (gJ_of mw_479 rfl))
  have kmw_480 := hts (Cond.constant RJ8 200 (2147483639)) (List.mem_cons_of_mem _ (gJ_of mw_480 rfl))
  refine lv_iload_n hx hb dJ8_newLength_cabcc_0 rfl (lv_at hl 0 rfl) ?_
  refine lv_iload_n hx hb dJ8_newLength_cabcc_1 rfl (lv_at hl 1 rfl) ?_
  refine lv_iload_n hx hb dJ8_newLength_cabcc_2 rfl (lv_at hl 2 rfl) ?_
  refine va_mmax hx hb (hml.trans hl.1.symm) hown kmw_476 kmw_477 kmw_478 kmw_479 (by decide) (Nat.le_of_ble_eq_true rfl) (by show _ ≤ 0; omega) (by show _ ≤ 0; omega) dJ8_newLength_cabcc_3 ?_
  obtain ⟨gm, hgm⟩ : ∃ g9, g9 = (if ck - cm < cm + 2 then cm + 2 else ck - cm) := ⟨_, rfl⟩
  have hgm2 : gm ≤ 800 ∧ 1 ≤ gm := by rw [hgm]; split <;> omega
  refine endI (r := nI gm) (by rw [hgm]; by_cases h9 : ck - cm < cm + 2; (· rw [if_pos h9, if_pos (nI_lt h9 (by omega))]); (· rw [if_neg h9, if_neg (nI_nlt (by omega) (by omega))])) ?_
  refine lv_iadd hx hb dJ8_newLength_cabcc_6 ?_
  refine endI (r := nI (cm + gm)) (nI_add _ _) ?_
  refine lv_istore_n (lv' := [(3, .int (nI (cm + gm))), (0, .int (nI cm)), (1, .int (nI (ck - cm))), (2, .int (nI (cm + 2)))]) hx hb dJ8_newLength_cabcc_7 rfl hl (by decide) rfl (fun ls hl => ?_)
  refine lv_iconst (v := 0) hx hb dJ8_newLength_cabcc_8 (by decide) ?_
  refine lv_iload_n hx hb dJ8_newLength_cabcc_9 rfl (lv_at hl 0 rfl) ?_
  refine lv_icmp_ge (tgt := 21) hx hb dJ8_newLength_cabcc_10 (by decide) (fun h9 => absurd h9 (nI_nle (by omega) (by omega))) (fun _ => ?_)
  refine lv_iload_n hx hb dJ8_newLength_cabcc_13 rfl (lv_at hl 0 rfl) ?_
  refine lv_ldc (v := 2147483639) hx hb hown kmw_480 dJ8_newLength_cabcc_14 ?_
  refine lv_icmp_gt (tgt := 21) hx hb dJ8_newLength_cabcc_16 (by decide) (fun h9 => absurd (show nI 2147483639 < nI (cm + gm) from h9) (nI_nlt (by omega) (by decide))) (fun _ => ?_)
  refine lv_iload_n hx hb dJ8_newLength_cabcc_19 rfl (lv_at hl 0 rfl) ?_
  refine endI (r := nI (jcap ck cm)) (by rw [hgm]; rfl) ?_
  exact hret ls _ dJ8_newLength_cabcc_20

set_option maxHeartbeats 4000000 in
set_option maxRecDepth 100000 in
theorem c_J5_newCapacity_0f7a4 (l : Launch) (D : va_G) (T : Nat → ClassId) (x : JV) (b0 q0 cm ck n0 : Nat) (a0 : Nat → Int32) (hm : cm ≤ 798) (hk : cm < ck) (hk2 : ck ≤ 798) (sz : Nat) : Met l yJ5_newCapacity_0f7a4 vtJ5_newCapacity_0f7a4 ({ frames := 2, cells := 0, slots := 0, locals := 44 } : Room) (va_Pc [.ref (b0), .int (nI ck)] (JP D T x ([(b0, .inr (11, [.ref q0, .int 0, .int 0, .int (nI n0)])), (q0, .inl (T 3, cm, .inl a0))]) sz)) (va_Qi (fun r9 (u : Unit) => r9 = nI (jcap ck cm)) (fun u t => QS D T (va_A ([(b0, .inr (11, [.ref q0, .int 0, .int 0, .int (nI n0)])), (q0, .inl (T 3, cm, .inl a0))]) sz) ([(b0, .inr (11, [.ref q0, .int 0, .int 0, .int (nI n0)])), (q0, .inl (T 3, cm, .inl a0))] : va_W) t) (va_A ([(b0, .inr (11, [.ref q0, .int 0, .int 0, .int (nI n0)])), (q0, .inl (T 3, cm, .inl a0))]) sz)) 0 0 (va_A ([(b0, .inr (11, [.ref q0, .int 0, .int 0, .int (nI n0)])), (q0, .inl (T 3, cm, .inl a0))]) sz) := by
  refine metJi (ty := .int) (wu := fun (u : Unit) => ([(b0, .inr (11, [.ref q0, .int 0, .int 0, .int (nI n0)])), (q0, .inl (T 3, cm, .inl a0))] : va_W)) (cc := cJ5_newCapacity_0f7a4) (maxL := 6) (by decide) rfl (fun _ _ _ => rfl) (Nat.le_of_ble_eq_true rfl) ?_
  intro p e s m args below meth c Q ls A hx hb hml hown hts hX hP hK hD hA hS hl hret
  have hown : s.vm.findClass RJ5 = some m.cls := hown
  have hl : lv_has ls 6 [(0, .ref (b0)), (1, .int (nI ck))] := hl
  have iRJ4 : ∀ w ∈ wsJ40, w ∈ vtJ5_newCapacity_0f7a4 := fun w hw => List.mem_cons_of_mem _ ((g_RJ4 w hw).1)
  have kmw_466 := hts (Cond.fieldLink RJ5 15 "java/lang/AbstractStringBuilder" "value" "[B") (List.mem_cons_of_mem _ (gJ_of mw_466 rfl))
  have kmw_467 := hts (Cond.fieldLink RJ5 22 "java/lang/AbstractStringBuilder" "coder" "B") (List.mem_cons_of_mem _ (gJ_of mw_467 rfl))
  have kmw_472 := hts (Cond.constant RJ5 39 (2147483647)) (List.mem_cons_of_mem _ (gJ_of mw_472 rfl))
  have hj : ck ≤ jcap ck cm ∧ jcap ck cm ≤ 1600 := by unfold jcap; split <;> omega
  have hgo : ∀ (H : Heap) (locs : List Loc), va_P D vwCl ([(b0, .inr (11, [.ref q0, .int 0, .int 0, .int (nI n0)])), (q0, .inl (T 3, cm, .inl a0))]) H → va_S A s.heap H locs → W p l e ({ frames := 2, cells := 0, slots := 0, locals := 44 } : Room) s m args below meth c H locs (0) (0) Q (F0 m 0 ls []) := by
    intro H locs hP hS
    refine lv_aload_n hx hb dJ5_newCapacity_0f7a4_0 rfl (lv_at hl 0 rfl) ?_
    refine va_get (D := D) (ci := 11) (v := .ref q0) (C := RJ4) (T := TJ4) (N := 4) hx hb hts iRJ4 hown hK hP 0 rfl rfl 0 (by decide) kmw_466 (fun _ h9 => h9) rfl dJ5_newCapacity_0f7a4_1 ?_
    refine va_alen (v := nI cm) hx hb hK hP 1 3 rfl rfl rfl dJ5_newCapacity_0f7a4_4 ?_
    refine lv_istore_n (lv' := [(2, .int (nI cm)), (0, .ref (b0)), (1, .int (nI ck))]) hx hb dJ5_newCapacity_0f7a4_5 rfl hl (by decide) rfl (fun ls hl => ?_)
    refine lv_iload_n hx hb dJ5_newCapacity_0f7a4_6 rfl (lv_at hl 2 rfl) ?_
    refine lv_aload_n hx hb dJ5_newCapacity_0f7a4_7 rfl (lv_at hl 1 rfl) ?_
    refine va_get (D := D) (ci := 11) (v := .int 0) (C := RJ4) (T := TJ4) (N := 4) hx hb hts iRJ4 hown hK hP 0 rfl rfl 1 (by decide) kmw_467 (fun _ h9 => h9) rfl dJ5_newCapacity_0f7a4_8 ?_
    refine lv_ishl hx hb dJ5_newCapacity_0f7a4_11 ?_
    refine endI (r := nI ck) (sb_shl0 _) ?_
    refine lv_istore_n (lv' := [(3, .int (nI ck)), (2, .int (nI cm)), (0, .ref (b0)), (1, .int (nI ck))]) hx hb dJ5_newCapacity_0f7a4_12 rfl hl (by decide) rfl (fun ls hl => ?_)
    refine lv_iload_n hx hb dJ5_newCapacity_0f7a4_13 rfl (lv_at hl 0 rfl) ?_
    refine lv_iload_n hx hb dJ5_newCapacity_0f7a4_14 rfl (lv_at hl 1 rfl) ?_
    refine lv_isub hx hb dJ5_newCapacity_0f7a4_15 ?_
    refine endI (r := nI (ck - cm)) (pk_sub (a := ck) (b := cm) (by omega)) ?_
    refine lv_istore (lv' := [(4, .int (nI (ck - cm))), (3, .int (nI ck)), (2, .int (nI cm)), (0, .ref (b0)), (1, .int (nI ck))]) hx hb dJ5_newCapacity_0f7a4_16 hl (by decide) rfl (fun ls hl => ?_)
    refine lv_iload_n hx hb dJ5_newCapacity_0f7a4_18 rfl (lv_at hl 2 rfl) ?_
    refine lv_iload hx hb dJ5_newCapacity_0f7a4_19 (lv_at hl 0 rfl) ?_
    refine lv_iload_n hx hb dJ5_newCapacity_0f7a4_21 rfl (lv_at hl 2 rfl) ?_
    refine lv_iconst (v := 2) hx hb dJ5_newCapacity_0f7a4_22 (by decide) ?_
    refine lv_aload_n hx hb dJ5_newCapacity_0f7a4_23 rfl (lv_at hl 3 rfl) ?_
    refine va_get (D := D) (ci := 11) (v := .int 0) (C := RJ4) (T := TJ4) (N := 4) hx hb hts iRJ4 hown hK hP 0 rfl rfl 1 (by decide) kmw_467 (fun _ h9 => h9) rfl dJ5_newCapacity_0f7a4_24 ?_
    refine lv_ishl hx hb dJ5_newCapacity_0f7a4_27 ?_
    refine endI (r := 2) (sb_shl0 _) ?_
    refine lv_iadd hx hb dJ5_newCapacity_0f7a4_28 ?_
    refine endI (r := nI (cm + 2)) (nI_add _ _) ?_
    refine rdBS (As := [.int (nI cm), .int (nI (ck - cm)), .int (nI (cm + 2))]) (rest := []) (B := fun _ => True) (fun _ _ _ _ _ => trivial) ⟨hx, hb, hml, hown, hts⟩ (c_J8_newLength_cabcc l cm ck hm hk hk2) (va_cwS 3 hts (gCJ gj71S_RJ5_114_J8_newLength_cabcc) rfl rfl rfl (by decide +kernel) ⟨Nat.le_of_ble_eq_true rfl, Nat.le_of_ble_eq_true rfl⟩) (fun _ _ _ => trivial) rfl hl.1 rfl (Nat.le_of_ble_eq_true rfl) ⟨by show _ ≤ 0; omega, by show _ ≤ 0; omega⟩ dJ5_newCapacity_0f7a4_29 ?_
    refine lv_istore (lv' := [(5, .int (nI (jcap ck cm))), (4, .int (nI (ck - cm))), (3, .int (nI ck)), (2, .int (nI cm)), (0, .ref (b0)), (1, .int (nI ck))]) hx hb dJ5_newCapacity_0f7a4_32 hl (by decide) rfl (fun ls hl => ?_)
    refine lv_iload hx hb dJ5_newCapacity_0f7a4_34 (lv_at hl 0 rfl) ?_
    refine lv_ldc (v := 2147483647) hx hb hown kmw_472 dJ5_newCapacity_0f7a4_36 ?_
    refine lv_icmp_ne (tgt := 51) hx hb dJ5_newCapacity_0f7a4_38 (by decide) (fun _ => ?_) (fun h9 => absurd ((nI_eq (by omega) (by decide)).mp (show nI (jcap ck cm) = nI 2147483647 from h9)) (by omega))
    refine lv_iload hx hb dJ5_newCapacity_0f7a4_51 (lv_at hl 0 rfl) ?_
    refine lv_aload_n hx hb dJ5_newCapacity_0f7a4_53 rfl (lv_at hl 4 rfl) ?_
    refine va_get (D := D) (ci := 11) (v := .int 0) (C := RJ4) (T := TJ4) (N := 4) hx hb hts iRJ4 hown hK hP 0 rfl rfl 1 (by decide) kmw_467 (fun _ h9 => h9) rfl dJ5_newCapacity_0f7a4_54 ?_
    refine lv_ishr hx hb dJ5_newCapacity_0f7a4_57 ?_
    refine endI (r := nI (jcap ck cm)) (sb_shr0 _) ?_
    exact hret _ _ _ _ _ _ (nI (jcap ck cm)) () dJ5_newCapacity_0f7a4_58 (rfl) hP hD hS (by omega) (by omega)
  exact hgo _ _ hP hS

set_option maxHeartbeats 4000000 in
set_option maxRecDepth 100000 in
theorem c_J7_copyOf_9075b (l : Launch) (D : va_G) (T : Nat → ClassId) (x : JV) (q0 cm ck : Nat) (a0 : Nat → Int32) (hm : cm ≤ 798) (hk : cm < ck) (hk2 : ck ≤ 798) (hf : sb_Fit a0) (sz : Nat) : Met l yJ7_copyOf_9075b vtJ7_copyOf_9075b ({ frames := 1, cells := 1, slots := 798, locals := 60 } : Room) (va_Pc [.ref (q0), .int (nI ck)] (JP D T x ([(q0, .inl (T 3, cm, .inl a0))]) sz)) (va_Qr (fun (u : Nat × (Nat → Int32)) => sb_Fit u.2 ∧ ∀ j, j < cm → u.2 j = a0 j) (fun u b9 t => b9 = (fun (u : Nat × (Nat → Int32)) => u.1) u ∧ QS D T (va_A ([(q0, .inl (T 3, cm, .inl a0))]) sz) ([(q0, .inl (T 3, cm, .inl a0)), (u.1, .inl (T 3, ck, .inl u.2))] : va_W) t) (va_A ([(q0, .inl (T 3, cm, .inl a0))]) sz)) 1 798 (va_A ([(q0, .inl (T 3, cm, .inl a0))]) sz) := by
  refine metJr (ty := (.array .byte)) (wu := fun (u : Nat × (Nat → Int32)) => ([(q0, .inl (T 3, cm, .inl a0)), (u.1, .inl (T 3, ck, .inl u.2))] : va_W)) (ru := fun (u : Nat × (Nat → Int32)) => u.1) (cc := cJ7_copyOf_9075b) (maxL := 3) (by decide) rfl (Or.inr ⟨_, rfl⟩) (Nat.le_of_ble_eq_true rfl) ?_
  intro p e s m args below meth c Q ls A hx hb hml hown hts hX hP hK hD hA hS hl hret
  have hown : s.vm.findClass RJ7 = some m.cls := hown
  have hl : lv_has ls 3 [(0, .ref (q0)), (1, .int (nI ck))] := hl
  have kmw_358 := hts (Cond.initialized "java/lang/System") (List.mem_cons_of_mem _ (gJ_of mw_358 rfl))
  have kmw_359 := hts (Cond.static arraycopyName) (List.mem_cons_of_mem _ (gJ_of mw_359 rfl))
  have kmw_360 := hts (Cond.native arraycopyName) (List.mem_cons_of_mem _ (gJ_of mw_360 rfl))
  have kmw_478 := hts (Cond.initialized "java/lang/Math") (List.mem_cons_of_mem _ (gJ_of mw_478 rfl))
  have kmw_493 := hts (Cond.arrayClass .byte) (List.mem_cons_of_mem _ (gJ_of mw_493 rfl))
  have kmw_494 := hts (Cond.methodLink RJ7 304 Lib.Math.min.name) (List.mem_cons_of_mem _ (gJ_of mw_494 rfl))
  have kmw_495 := hts (Cond.static Lib.Math.min.name) (List.mem_cons_of_mem _ (gJ_of mw_495 rfl))
  have kmw_496 := hts (Cond.code Lib.Math.min.name Lib.Math.min.code 2 (some .int)) (List.mem_cons_of_mem _ (gJ_of mw_496 rfl))
  have kmw_497 := hts (Cond.methodLink RJ7 150 arraycopyName) (List.mem_cons_of_mem _ (gJ_of mw_497 rfl))
  have hgo : ∀ (H : Heap) (locs : List Loc), va_P D vwCl ([(q0, .inl (T 3, cm, .inl a0))]) H → va_S A s.heap H locs → W p l e ({ frames := 1, cells := 1, slots := 798, locals := 60 } : Room) s m args below meth c H locs (0) (0) Q (F0 m 0 ls []) := by
    intro H locs hP hS
    refine lv_iload_n hx hb dJ7_copyOf_9075b_0 rfl (lv_at hl 1 rfl) ?_
    refine lv_aload_n hx hb dJ7_copyOf_9075b_1 rfl (lv_at hl 0 rfl) ?_
    refine va_alen (v := nI cm) hx hb hK hP 0 3 rfl rfl rfl dJ7_copyOf_9075b_2 ?_
    refine lv_icmp_ne (tgt := 14) hx hb dJ7_copyOf_9075b_3 (by decide) (fun _ => ?_) (fun h9 => absurd ((nI_eq (by omega) (by omega)).mp h9) (by omega))
    refine lv_iload_n hx hb dJ7_copyOf_9075b_14 rfl (lv_at hl 1 rfl) ?_
    refine newB hx hb kmw_493 hK hP hD hS hA (n := nI ck) (N' := ck) (nI_pos (by omega)) (nI_clamp (by omega)) (by omega) (by show _ ≤ 1; omega) (by show _ ≤ 798; omega) dJ7_copyOf_9075b_15 (fun q15 H hP hD hS => ?_)
    have hP : va_P D vwCl ([(q0, .inl (T 3, cm, .inl a0)), (q15, .inl (T 3, ck, .inl (fun _ => 0)))]) H := hP
    have hD : va_D A ([(q0, .inl (T 3, cm, .inl a0)), (q15, .inl (T 3, ck, .inl (fun _ => 0)))]) := hD
    refine lv_astore_n (lv' := [(2, .ref (q15)), (0, .ref (q0)), (1, .int (nI ck))]) hx hb dJ7_copyOf_9075b_17 rfl hl (by decide) rfl (fun ls hl => ?_)
    refine lv_aload_n hx hb dJ7_copyOf_9075b_18 rfl (lv_at hl 1 rfl) ?_
    refine lv_iconst (v := 0) hx hb dJ7_copyOf_9075b_19 (by decide) ?_
    refine lv_aload_n hx hb dJ7_copyOf_9075b_20 rfl (lv_at hl 0 rfl) ?_
    refine lv_iconst (v := 0) hx hb dJ7_copyOf_9075b_21 (by decide) ?_
    refine lv_aload_n hx hb dJ7_copyOf_9075b_22 rfl (lv_at hl 1 rfl) ?_
    refine va_alen (v := nI cm) hx hb hK hP 0 3 rfl rfl rfl dJ7_copyOf_9075b_23 ?_
    refine lv_iload_n hx hb dJ7_copyOf_9075b_24 rfl (lv_at hl 2 rfl) ?_
    refine va_mmin hx hb (hml.trans hl.1.symm) hown kmw_494 kmw_495 kmw_478 kmw_496 (by decide) (Nat.le_of_ble_eq_true rfl) (by show _ ≤ 1; omega) (by show _ ≤ 798; omega) dJ7_copyOf_9075b_25 ?_
    refine endI (r := nI cm) (if_neg (nI_nlt (by omega) (by omega))) ?_
    refine va_copyi (ty := .byte) hx hb (hml.trans hl.1.symm) hown kmw_497 kmw_360 kmw_359 kmw_358 hK hP hD hS 0 1 3 3 rfl rfl rfl rfl rfl (by decide) (by decide) (nI_pos (by omega)) (by rw [sb_cl0, nI_clamp (by omega)]; omega) (by rw [sb_cl0, nI_clamp (by omega)]; omega) (fun i _ => hf _) (Nat.le_of_ble_eq_true rfl) (Nat.le_of_ble_eq_true rfl) dJ7_copyOf_9075b_28 (fun H locs hP hD hS => ?_)
    rw [sb_cl0, nI_clamp (n := cm) (by omega)] at hP hD
    have hP : va_P D vwCl ([(q0, .inl (T 3, cm, .inl a0)), (q15, .inl (T 3, ck, .inl (va_cpy a0 (fun _ => 0) 0 0 cm)))]) H := hP
    have hD : va_D A ([(q0, .inl (T 3, cm, .inl a0)), (q15, .inl (T 3, ck, .inl (va_cpy a0 (fun _ => 0) 0 0 cm)))]) := hD
    refine lv_aload_n hx hb dJ7_copyOf_9075b_31 rfl (lv_at hl 0 rfl) ?_
    exact hret _ _ _ _ _ _ (q15, va_cpy a0 (fun _ => 0) 0 0 cm) dJ7_copyOf_9075b_32 (⟨sb_fitC hf sb_fit0, fun j hj => sb_cpy0 (f := a0) (g := fun _ => 0) (n := cm) hj⟩) hP hD hS (by omega) (by omega)
  exact hgo _ _ hP hS

set_option maxHeartbeats 4000000 in
set_option maxRecDepth 100000 in
theorem c_J5_ensureCapacityInternal_d00df (l : Launch) (D : va_G) (T : Nat → ClassId) (x : JV) (b0 q0 cm ck n0 : Nat) (a0 : Nat → Int32) (hm : cm ≤ 798) (hk2 : ck ≤ 398) (hf : sb_Fit a0) (sz : Nat) : Met l yJ5_ensureCapacityInternal_d00df vtJ5_ensureCapacityInternal_d00df ({ frames := 3, cells := 1, slots := 798, locals := 82 } : Room) (va_Pc [.ref (b0), .int (nI ck)] (JP D T x ([(b0, .inr (11, [.ref q0, .int 0, .int 0, .int (nI n0)])), (q0, .inl (T 3, cm, .inl a0))]) sz)) (va_Qv (fun (u : SBU) => ck ≤ u.2.1 ∧ cm ≤ u.2.1 ∧ u.2.1 ≤ 798 ∧ sb_Fit u.2.2 ∧ ∀ j, j < cm → u.2.2 j = a0 j) (fun u t => QS D T (va_A ([(b0, .inr (11, [.ref q0, .int 0, .int 0, .int (nI n0)])), (q0, .inl (T 3, cm, .inl a0))]) sz) ([(b0, .inr (11, [.ref u.1, .int 0, .int 0, .int (nI n0)])), (u.1, .inl (T 3, u.2.1, .inl u.2.2))] : va_W) t) (va_A ([(b0, .inr (11, [.ref q0, .int 0, .int 0, .int (nI n0)])), (q0, .inl (T 3, cm, .inl a0))]) sz)) 1 798 (va_A ([(b0, .inr (11, [.ref q0, .int 0, .int 0, .int (nI n0)])), (q0, .inl (T 3, cm, .inl a0))]) sz) := by
  refine metJv (wu := fun (u : SBU) => ([(b0, .inr (11, [.ref u.1, .int 0, .int 0, .int (nI n0)])), (u.1, .inl (T 3, u.2.1, .inl u.2.2))] : va_W)) (cc := cJ5_ensureCapacityInternal_d00df) (maxL := 3) (by decide) rfl (Nat.le_of_ble_eq_true rfl) ?_
  intro p e s m args below meth c Q ls A hx hb hml hown hts hX hP hK hD hA hS hl hret
  have hown : s.vm.findClass RJ5 = some m.cls := hown
  have hl : lv_has ls 3 [(0, .ref (b0)), (1, .int (nI ck))] := hl
  have iRJ4 : ∀ w ∈ wsJ40, w ∈ vtJ5_ensureCapacityInternal_d00df := fun w hw => List.mem_cons_of_mem _ ((g_RJ4 w hw).1)
  have kmw_466 := hts (Cond.fieldLink RJ5 15 "java/lang/AbstractStringBuilder" "value" "[B") (List.mem_cons_of_mem _ (gJ_of mw_466 rfl))
  have kmw_467 := hts (Cond.fieldLink RJ5 22 "java/lang/AbstractStringBuilder" "coder" "B") (List.mem_cons_of_mem _ (gJ_of mw_467 rfl))
  have hgo : ∀ (H : Heap) (locs : List Loc), va_P D vwCl ([(b0, .inr (11, [.ref q0, .int 0, .int 0, .int (nI n0)])), (q0, .inl (T 3, cm, .inl a0))]) H → va_S A s.heap H locs → W p l e ({ frames := 3, cells := 1, slots := 798, locals := 82 } : Room) s m args below meth c H locs (0) (0) Q (F0 m 0 ls []) := by
    intro H locs hP hS
    refine lv_aload_n hx hb dJ5_ensureCapacityInternal_d00df_0 rfl (lv_at hl 0 rfl) ?_
    refine va_get (D := D) (ci := 11) (v := .ref q0) (C := RJ4) (T := TJ4) (N := 4) hx hb hts iRJ4 hown hK hP 0 rfl rfl 0 (by decide) kmw_466 (fun _ h9 => h9) rfl dJ5_ensureCapacityInternal_d00df_1 ?_
    refine va_alen (v := nI cm) hx hb hK hP 1 3 rfl rfl rfl dJ5_ensureCapacityInternal_d00df_4 ?_
    refine lv_aload_n hx hb dJ5_ensureCapacityInternal_d00df_5 rfl (lv_at hl 0 rfl) ?_
    refine va_get (D := D) (ci := 11) (v := .int 0) (C := RJ4) (T := TJ4) (N := 4) hx hb hts iRJ4 hown hK hP 0 rfl rfl 1 (by decide) kmw_467 (fun _ h9 => h9) rfl dJ5_ensureCapacityInternal_d00df_6 ?_
    refine lv_ishr hx hb dJ5_ensureCapacityInternal_d00df_9 ?_
    refine endI (r := nI cm) (sb_shr0 _) ?_
    refine lv_istore_n (lv' := [(2, .int (nI cm)), (0, .ref (b0)), (1, .int (nI ck))]) hx hb dJ5_ensureCapacityInternal_d00df_10 rfl hl (by decide) rfl (fun ls hl => ?_)
    refine lv_iload_n hx hb dJ5_ensureCapacityInternal_d00df_11 rfl (lv_at hl 2 rfl) ?_
    refine lv_iload_n hx hb dJ5_ensureCapacityInternal_d00df_12 rfl (lv_at hl 0 rfl) ?_
    refine lv_isub hx hb dJ5_ensureCapacityInternal_d00df_13 ?_
    refine endI (r := nI ck - nI cm) (rfl) ?_
    refine lv_if_le (tgt := 38) hx hb dJ5_ensureCapacityInternal_d00df_14 (by decide) (fun c14 => ?_) (fun c14 => ?_)
    ·
      have h9 : ck ≤ cm := by rw [Int32.le_iff_toInt_le, pk_sub_toInt (by omega) (by omega), Int32.toInt_zero] at c14; omega
      exact hret _ _ _ _ _ _ (q0, cm, a0) dJ5_ensureCapacityInternal_d00df_38 (⟨h9, Nat.le_refl _, hm, hf, fun _ _ => rfl⟩) hP hD hS (by omega) (by omega)
    ·
      have hk : cm < ck := by rw [Int32.le_iff_toInt_le, pk_sub_toInt (by omega) (by omega), Int32.toInt_zero] at c14; omega
      have hj : ck ≤ jcap ck cm ∧ jcap ck cm ≤ 798 := by unfold jcap; split <;> omega
      refine lv_aload_n hx hb dJ5_ensureCapacityInternal_d00df_17 rfl (lv_at hl 1 rfl) ?_
      refine lv_aload_n hx hb dJ5_ensureCapacityInternal_d00df_18 rfl (lv_at hl 1 rfl) ?_
      refine va_get (D := D) (ci := 11) (v := .ref q0) (C := RJ4) (T := TJ4) (N := 4) hx hb hts iRJ4 hown hK hP 0 rfl rfl 0 (by decide) kmw_466 (fun _ h9 => h9) rfl dJ5_ensureCapacityInternal_d00df_19 ?_
      refine lv_aload_n hx hb dJ5_ensureCapacityInternal_d00df_22 rfl (lv_at hl 1 rfl) ?_
      refine lv_iload_n hx hb dJ5_ensureCapacityInternal_d00df_23 rfl (lv_at hl 2 rfl) ?_
      have hF0 : Foc [(b0, .inr (11, [.ref q0, .int 0, .int 0, .int (nI n0)])), (q0, .inl (T 3, cm, .inl a0))] [(b0, .inr (11, [.ref q0, .int 0, .int 0, .int (nI n0)])), (q0, .inl (T 3, cm, .inl a0))] [(b0, .inr (11, [.ref q0, .int 0, .int 0, .int (nI n0)])), (q0, .inl (T 3, cm, .inl a0))] [(b0, .inr (11, [.ref q0, .int 0, .int 0, .int (nI n0)])), (q0, .inl (T 3, cm, .inl a0))] := Foc.rfl _ _
      refine jti (S := Unit) (ws1 := fun u => ([(b0, .inr (11, [.ref q0, .int 0, .int 0, .int (nI n0)])), (q0, .inl (T 3, cm, .inl a0))] : va_W)) (wc1 := fun u => ([(b0, .inr (11, [.ref q0, .int 0, .int 0, .int (nI n0)])), (q0, .inl (T 3, cm, .inl a0))] : va_W)) (va_runV (C := RJ4) (b := b0) (As := [.int (nI ck)]) (rest := [.ref (q0), .ref (b0)]) ⟨hx, hb, hml, hown, hts⟩ (c_J5_newCapacity_0f7a4 l D T x b0 q0 cm ck n0 a0 hm hk (by omega) _) (cwP 1 hts (gCJ gj71P_RJ5_104_J5_newCapacity_0f7a4) rfl rfl rfl (by decide +kernel) ⟨Nat.le_of_ble_eq_true rfl, Nat.le_of_ble_eq_true rfl⟩) ⟨JP.blind _ _ _ _ _ _, va_recv (ci := 11) (q0 := 0) hK ((hF0).subP hP) rfl rfl, jpre (As := [.ref (b0), .int (nI ck)]) hF0 hX hK hP hD hS hA⟩ rfl rfl hl.1 rfl (lv_room (m := m) (pc := 24) (ls := ls) (rest := [.int (nI ck), .ref (b0), .ref (q0), .ref (b0)]) (st := [.ref (q0), .ref (b0)]) (Nat.le_of_ble_eq_true rfl)) dJ5_ensureCapacityInternal_d00df_24 ⟨by show _ ≤ 1; omega, by show _ ≤ 798; omega⟩) (fun u => Foc.rfl _ _) (hF0) hP hD hS hA (fun r9 u H locs hr hP hD hS => ?_)
      subst hr
      have hP : va_P D vwCl ([(b0, .inr (11, [.ref q0, .int 0, .int 0, .int (nI n0)])), (q0, .inl (T 3, cm, .inl a0))]) H := hP
      have hD : va_D A ([(b0, .inr (11, [.ref q0, .int 0, .int 0, .int (nI n0)])), (q0, .inl (T 3, cm, .inl a0))]) := hD
      refine lv_aload_n hx hb dJ5_ensureCapacityInternal_d00df_27 rfl (lv_at hl 1 rfl) ?_
      refine va_get (D := D) (ci := 11) (v := .int 0) (C := RJ4) (T := TJ4) (N := 4) hx hb hts iRJ4 hown hK hP 0 rfl rfl 1 (by decide) kmw_467 (fun _ h9 => h9) rfl dJ5_ensureCapacityInternal_d00df_28 ?_
      refine lv_ishl hx hb dJ5_ensureCapacityInternal_d00df_31 ?_
      refine endI (r := nI (jcap ck cm)) (sb_shl0 _) ?_
      have hF0 : Foc [(b0, .inr (11, [.ref q0, .int 0, .int 0, .int (nI n0)])), (q0, .inl (T 3, cm, .inl a0))] [(q0, .inl (T 3, cm, .inl a0))] [(b0, .inr (11, [.ref q0, .int 0, .int 0, .int (nI n0)])), (q0, .inl (T 3, cm, .inl a0))] [(q0, .inl (T 3, cm, .inl a0))] := Foc.pre [(b0, .inr (11, [.ref q0, .int 0, .int 0, .int (nI n0)]))] _ _
      refine jtr (S := Nat × (Nat → Int32)) (ws1 := fun u => ([(b0, .inr (11, [.ref q0, .int 0, .int 0, .int (nI n0)]))] ++ [(q0, .inl (T 3, cm, .inl a0)), (u.1, .inl (T 3, (jcap ck cm), .inl u.2))] : va_W)) (wc1 := fun u => ([(q0, .inl (T 3, cm, .inl a0)), (u.1, .inl (T 3, (jcap ck cm), .inl u.2))] : va_W)) (ru := fun u => u.1) (va_runS (As := [.ref (q0), .int (nI (jcap ck cm))]) (rest := [.ref (b0)]) ⟨hx, hb, hml, hown, hts⟩ (c_J7_copyOf_9075b l D T x q0 cm (jcap ck cm) a0 hm (by omega) (by omega) hf _) (va_cwS 2 hts (gCJ gj71S_RJ5_108_J7_copyOf_9075b) rfl rfl rfl (by decide +kernel) ⟨Nat.le_of_ble_eq_true rfl, Nat.le_of_ble_eq_true rfl⟩) ⟨JP.blind _ _ _ _ _ _, jpre (As := [.ref (q0), .int (nI (jcap ck cm))]) hF0 hX hK hP hD hS hA⟩ rfl rfl hl.1 rfl (lv_room (m := m) (pc := 32) (ls := ls) (rest := [.int (nI (jcap ck cm)), .ref (q0), .ref (b0)]) (st := [.ref (b0)]) (Nat.le_of_ble_eq_true rfl)) dJ5_ensureCapacityInternal_d00df_32 ⟨by show _ ≤ 1; omega, by show _ ≤ 798; omega⟩) (fun u => Foc.pre [(b0, .inr (11, [.ref q0, .int 0, .int 0, .int (nI n0)]))] _ _) (hF0) hP hD hS hA (fun u H locs hr hP hD hS => ?_)
      obtain ⟨q9, a9⟩ := u
      obtain ⟨hf9, hk9⟩ := hr
      have hP : va_P D vwCl ([(b0, .inr (11, [.ref q0, .int 0, .int 0, .int (nI n0)])), (q0, .inl (T 3, cm, .inl a0)), (q9, .inl (T 3, (jcap ck cm), .inl a9))]) H := hP
      have hD : va_D A ([(b0, .inr (11, [.ref q0, .int 0, .int 0, .int (nI n0)])), (q0, .inl (T 3, cm, .inl a0)), (q9, .inl (T 3, (jcap ck cm), .inl a9))]) := hD
      refine va_put (D := D) (ci := 11) (v := .ref q9) (ty := .array .byte) (C := RJ4) (T := TJ4) (N := 4) hx hb hts iRJ4 tyJ4 tyJ4_ok nmJ4 hown hK hP hD hS 0 rfl rfl 0 (by decide) kmw_466 (fun _ h9 => h9) rfl (by decide +kernel) rfl rfl (Nat.le_of_ble_eq_true rfl) dJ5_ensureCapacityInternal_d00df_35 (fun H locs hP hD hS => ?_)
      have hP : va_P D vwCl ([(b0, .inr (11, [.ref q9, .int 0, .int 0, .int (nI n0)])), (q0, .inl (T 3, cm, .inl a0)), (q9, .inl (T 3, (jcap ck cm), .inl a9))]) H := hP
      have hD : va_D A ([(b0, .inr (11, [.ref q9, .int 0, .int 0, .int (nI n0)])), (q0, .inl (T 3, cm, .inl a0)), (q9, .inl (T 3, (jcap ck cm), .inl a9))]) := hD
      have hP : va_P D vwCl [(b0, .inr (11, [.ref q9, .int 0, .int 0, .int (nI n0)])), (q9, .inl (T 3, (jcap ck cm), .inl a9))] H := hP.sub [0, 2] rfl
      have hD : va_D A [(b0, .inr (11, [.ref q9, .int 0, .int 0, .int (nI n0)])), (q9, .inl (T 3, (jcap ck cm), .inl a9))] := hD.sub [0, 2] rfl rfl
      exact hret _ _ _ _ _ _ (q9, jcap ck cm, a9) dJ5_ensureCapacityInternal_d00df_38 (⟨hj.1, by show cm ≤ jcap ck cm; omega, hj.2, hf9, hk9⟩) hP hD hS (by omega) (by omega)
  exact hgo _ _ hP hS
