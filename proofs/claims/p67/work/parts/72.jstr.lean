/-! StringBuilder: a text appended -/
theorem fit128 {c : Nat} (hc : c < 128) : fits .byte (.int (nI c)) = true := by
  have h : ∀ c, c < 128 → fits .byte (.int (nI c)) = true := by decide
  exact h _ hc
theorem AL_of {L : List Nat} (h : ∀ j, j < L.length → L.getD j 0 < 128) : AL L := fun j => by
  by_cases e : j < L.length
  · exact h j e
  · rw [List.getD_eq_getElem?_getD, List.getElem?_eq_none (by omega)]; decide
theorem AL_j {i : Nat} (hi : i < 8) : AL (jL i) := AL_of (jL_ok i hi).2

theorem mwj72_0 : Cond.methodLink RJ5 397 yJ5_inflateIfNeededFor_a7421 ∈ lw_tbl := tb_t5 _ (List.mem_of_getElem? (i := 132) rfl)
theorem mwj72_1 : Cond.methodLink RJ5 100 yJ5_ensureCapacityInternal_d00df ∈ lw_tbl := tb_t5 _ (List.mem_of_getElem? (i := 77) rfl)
theorem mwj72_2 : Cond.methodLink RJ5 208 yJ5_putStringAt_47b60 ∈ lw_tbl := tb_t5 _ (List.mem_of_getElem? (i := 128) rfl)
theorem mwj72_3 : Cond.sameMethod RJ5 RJ5 "append" "(Ljava/lang/String;)Ljava/lang/AbstractStringBuilder;" ∈ lw_tbl := tb_t5 _ (List.mem_of_getElem? (i := 62) rfl)
theorem mwj72_4 : Cond.selects RJ4 ⟨RJ5, "append", "(Ljava/lang/String;)Ljava/lang/AbstractStringBuilder;"⟩ yJ4_append_cf1ce ∈ lw_tbl := tb_t5 _ (List.mem_of_getElem? (i := 63) rfl)
theorem mwj72_5 : Cond.instanceMethod ⟨RJ5, "append", "(Ljava/lang/String;)Ljava/lang/AbstractStringBuilder;"⟩ ∈ lw_tbl := tb_t5 _ (List.mem_of_getElem? (i := 61) rfl)
theorem mwj72_6 : Cond.methodLink RJ5 43 ⟨RJ5, "append", "(Ljava/lang/String;)Ljava/lang/AbstractStringBuilder;"⟩ ∈ lw_tbl := tb_t5 _ (List.mem_of_getElem? (i := 60) rfl)
theorem gw_wsJ0_coder_7d493 : GoodIn gT wsJ0_coder_7d493 := show GoodIn gT [Cond.code yJ0_coder_7d493 cJ0_coder_7d493 1 (some .byte), Cond.fieldLink RJ0 38 "java/lang/String" "COMPACT_STRINGS" "Z", Cond.fieldLink RJ0 15 "java/lang/String" "coder" "B", Cond.laysFinal RJ0 "java/lang/String" "value" "[B", Cond.laysFinal RJ0 "java/lang/String" "coder" "B", Cond.lays RJ0 "java/lang/String" "hash" "I", Cond.lays RJ0 "java/lang/String" "hashIsZero" "Z"] from gcons mw_207 rfl (gcons mw_206 rfl (gcons mw_205 rfl (gcons mw_437 rfl (gcons mw_436 rfl (gcons mw_435 rfl (gcons mw_434 rfl (gnil)))))))
theorem gj72V_RJ5_40_J0_coder_7d493 : GoodIn gJ (wsV RJ5 40 RJ0 yJ0_coder_7d493 wsJ0_coder_7d493) := show GoodIn gJ ([Cond.methodLink RJ5 40 yJ0_coder_7d493, Cond.instanceMethod yJ0_coder_7d493, Cond.selects RJ0 yJ0_coder_7d493 yJ0_coder_7d493, Cond.initialized RJ0] ++ wsJ0_coder_7d493) from goodIn_app (gconJ (gJ_of mw_544 rfl) rfl (gconJ (gJ_of mw_209 rfl) rfl (gconJ (gJ_of mw_208 rfl) rfl (gconJ (gJ_of mw_165 rfl) rfl (gnilJ))))) (gJ_up gw_wsJ0_coder_7d493)
theorem gj72V_RJ0_335_J0_coder_7d493 : GoodIn gJ (wsV RJ0 335 RJ0 yJ0_coder_7d493 wsJ0_coder_7d493) := show GoodIn gJ ([Cond.methodLink RJ0 335 yJ0_coder_7d493, Cond.instanceMethod yJ0_coder_7d493, Cond.selects RJ0 yJ0_coder_7d493 yJ0_coder_7d493, Cond.initialized RJ0] ++ wsJ0_coder_7d493) from goodIn_app (gconJ (gJ_of mw_210 rfl) rfl (gconJ (gJ_of mw_209 rfl) rfl (gconJ (gJ_of mw_208 rfl) rfl (gconJ (gJ_of mw_165 rfl) rfl (gnilJ))))) (gJ_up gw_wsJ0_coder_7d493)
theorem gj72P_RJ5_397_J5_inflateIfNeededFor_a7421 : GoodIn gJ (wsP RJ5 397 RJ4 yJ5_inflateIfNeededFor_a7421 vtJ5_inflateIfNeededFor_a7421) := show GoodIn gJ ([Cond.methodLink RJ5 397 yJ5_inflateIfNeededFor_a7421, Cond.instanceMethod yJ5_inflateIfNeededFor_a7421, Cond.selects RJ4 yJ5_inflateIfNeededFor_a7421 yJ5_inflateIfNeededFor_a7421, Cond.initialized RJ5] ++ vtJ5_inflateIfNeededFor_a7421) from goodIn_app (gconJ (gJ_of mwj72_0 rfl) rfl (gconJ (gJ_of mw_553 rfl) rfl (gconJ sel_yJ5_inflateIfNeededFor_a7421 rfl (gconJ (gJ_of mw_471 rfl) rfl (gnilJ))))) gw_vtJ5_inflateIfNeededFor_a7421
theorem gj72V_RJ5_399_J0_getBytes_840e7 : GoodIn gJ (wsV RJ5 399 RJ0 yJ0_getBytes_840e7 vtJ0_getBytes_840e7) := show GoodIn gJ ([Cond.methodLink RJ5 399 yJ0_getBytes_840e7, Cond.instanceMethod yJ0_getBytes_840e7, Cond.selects RJ0 yJ0_getBytes_840e7 yJ0_getBytes_840e7, Cond.initialized RJ0] ++ vtJ0_getBytes_840e7) from goodIn_app (gconJ (gJ_of mw_554 rfl) rfl (gconJ (gJ_of mw_555 rfl) rfl (gconJ (gJ_of mw_556 rfl) rfl (gconJ (gJ_of mw_165 rfl) rfl (gnilJ))))) gw_vtJ0_getBytes_840e7
theorem gj72V_RJ5_32_J0_length_8abf5 : GoodIn gJ (wsV RJ5 32 RJ0 yJ0_length_8abf5 wsJ0_length_8abf5) := show GoodIn gJ ([Cond.methodLink RJ5 32 yJ0_length_8abf5, Cond.instanceMethod yJ0_length_8abf5, Cond.selects RJ0 yJ0_length_8abf5 yJ0_length_8abf5, Cond.initialized RJ0] ++ wsJ0_length_8abf5) from goodIn_app (gconJ (gJ_of mw_561 rfl) rfl (gconJ (gJ_of mw_167 rfl) rfl (gconJ (gJ_of mw_166 rfl) rfl (gconJ (gJ_of mw_165 rfl) rfl (gnilJ))))) (gJ_up gw_wsJ0_length_8abf5)
theorem gj72P_RJ5_100_J5_ensureCapacityInternal_d00df : GoodIn gJ (wsP RJ5 100 RJ4 yJ5_ensureCapacityInternal_d00df vtJ5_ensureCapacityInternal_d00df) := show GoodIn gJ ([Cond.methodLink RJ5 100 yJ5_ensureCapacityInternal_d00df, Cond.instanceMethod yJ5_ensureCapacityInternal_d00df, Cond.selects RJ4 yJ5_ensureCapacityInternal_d00df yJ5_ensureCapacityInternal_d00df, Cond.initialized RJ5] ++ vtJ5_ensureCapacityInternal_d00df) from goodIn_app (gconJ (gJ_of mwj72_1 rfl) rfl (gconJ (gJ_of mw_501 rfl) rfl (gconJ sel_yJ5_ensureCapacityInternal_d00df rfl (gconJ (gJ_of mw_471 rfl) rfl (gnilJ))))) gw_vtJ5_ensureCapacityInternal_d00df
theorem gj72P_RJ5_208_J5_putStringAt_47b60 : GoodIn gJ (wsP RJ5 208 RJ4 yJ5_putStringAt_47b60 vtJ5_putStringAt_47b60) := show GoodIn gJ ([Cond.methodLink RJ5 208 yJ5_putStringAt_47b60, Cond.instanceMethod yJ5_putStringAt_47b60, Cond.selects RJ4 yJ5_putStringAt_47b60 yJ5_putStringAt_47b60, Cond.initialized RJ5] ++ vtJ5_putStringAt_47b60) from goodIn_app (gconJ (gJ_of mwj72_2 rfl) rfl (gconJ (gJ_of mw_564 rfl) rfl (gconJ sel_yJ5_putStringAt_47b60 rfl (gconJ (gJ_of mw_471 rfl) rfl (gnilJ))))) gw_vtJ5_putStringAt_47b60
theorem gj72SU_RJ4_29_J5_append_cf1ce : GoodIn gJ (va_wsSU RJ4 29 yJ5_append_cf1ce vtJ5_append_cf1ce) := show GoodIn gJ ([Cond.methodLink RJ4 29 yJ5_append_cf1ce, Cond.sameMethod RJ5 RJ5 "append" "(Ljava/lang/String;)Ljava/lang/AbstractStringBuilder;", Cond.superclass RJ4 RJ5, Cond.instanceMethod yJ5_append_cf1ce, Cond.initialized RJ5] ++ vtJ5_append_cf1ce) from goodIn_app (gconJ (gJ_of mw_565 rfl) rfl (gconJ (gJ_of mwj72_3 rfl) rfl (gconJ (gJ_of mw_567 rfl) rfl (gconJ (gJ_of mw_568 rfl) rfl (gconJ (gJ_of mw_471 rfl) rfl (gnilJ)))))) gw_vtJ5_append_cf1ce
theorem gj72V_RJ4_23_J4_append_15ec4 : GoodIn gJ (wsV RJ4 23 RJ4 yJ4_append_15ec4 vtJ4_append_15ec4) := show GoodIn gJ ([Cond.methodLink RJ4 23 yJ4_append_15ec4, Cond.instanceMethod yJ4_append_15ec4, Cond.selects RJ4 yJ4_append_15ec4 yJ4_append_15ec4, Cond.initialized RJ4] ++ vtJ4_append_15ec4) from goodIn_app (gconJ (gJ_of mw_569 rfl) rfl (gconJ (gJ_of mw_570 rfl) rfl (gconJ (gJ_of mw_571 rfl) rfl (gconJ (gJ_of mw_572 rfl) rfl (gnilJ))))) gw_vtJ4_append_15ec4
theorem gj72O_RJ5_43_J4_append_cf1ce : GoodIn gJ (va_wsO RJ5 43 RJ4 RJ5 ⟨RJ5, "append", "(Ljava/lang/String;)Ljava/lang/AbstractStringBuilder;"⟩ yJ4_append_cf1ce vtJ4_append_cf1ce) := show GoodIn gJ ([Cond.methodLink RJ5 43 ⟨RJ5, "append", "(Ljava/lang/String;)Ljava/lang/AbstractStringBuilder;"⟩, Cond.sameMethod RJ5 RJ5 "append" "(Ljava/lang/String;)Ljava/lang/AbstractStringBuilder;", Cond.instanceMethod ⟨RJ5, "append", "(Ljava/lang/String;)Ljava/lang/AbstractStringBuilder;"⟩, Cond.selects RJ4 ⟨RJ5, "append", "(Ljava/lang/String;)Ljava/lang/AbstractStringBuilder;"⟩ yJ4_append_cf1ce, Cond.instanceMethod yJ4_append_cf1ce, Cond.initialized RJ4] ++ vtJ4_append_cf1ce) from goodIn_app (gconJ (gJ_of mwj72_6 rfl) rfl (gconJ (gJ_of mwj72_3 rfl) rfl (gconJ (gJ_of mwj72_5 rfl) rfl (gconJ (gJ_of mwj72_4 rfl) rfl (gconJ (gJ_of mw_578 rfl) rfl (gconJ (gJ_of mw_572 rfl) rfl (gnilJ))))))) gw_vtJ4_append_cf1ce
set_option maxHeartbeats 4000000 in
set_option maxRecDepth 100000 in
theorem c_J5_isLatin1_aae02 (l : Launch) (D : va_G) (T : Nat → ClassId) (x : JV) (b0 q0 cm n0 : Nat) (a0 : Nat → Int32) (sz : Nat) : Met l yJ5_isLatin1_aae02 vtJ5_isLatin1_aae02 ({ frames := 0, cells := 0, slots := 0, locals := 0 } : Room) (va_Pc [.ref (b0)] (JP D T x ([(b0, .inr (11, [.ref q0, .int 0, .int 0, .int (nI n0)])), (q0, .inl (T 3, cm, .inl a0))]) sz)) (va_Qi (fun r9 (u : Unit) => r9 = 1) (fun u t => QS D T (va_A ([(b0, .inr (11, [.ref q0, .int 0, .int 0, .int (nI n0)])), (q0, .inl (T 3, cm, .inl a0))]) sz) ([(b0, .inr (11, [.ref q0, .int 0, .int 0, .int (nI n0)])), (q0, .inl (T 3, cm, .inl a0))] : va_W) t) (va_A ([(b0, .inr (11, [.ref q0, .int 0, .int 0, .int (nI n0)])), (q0, .inl (T 3, cm, .inl a0))]) sz)) 0 0 (va_A ([(b0, .inr (11, [.ref q0, .int 0, .int 0, .int (nI n0)])), (q0, .inl (T 3, cm, .inl a0))]) sz) := by
  refine metJi (ty := .boolean) (wu := fun (u : Unit) => ([(b0, .inr (11, [.ref q0, .int 0, .int 0, .int (nI n0)])), (q0, .inl (T 3, cm, .inl a0))] : va_W)) (cc := cJ5_isLatin1_aae02) (maxL := 1) (by decide) rfl (fun _ _ h => by rw [h]; rfl) (Nat.le_of_ble_eq_true rfl) ?_
  intro p e s m args below meth c Q ls A hx hb hml hown hts hX hP hK hD hA hS hl hret
  have hown : s.vm.findClass RJ5 = some m.cls := hown
  have hl : lv_has ls 1 [(0, .ref (b0))] := hl
  have iRJ4 : ∀ w ∈ wsJ40, w ∈ vtJ5_isLatin1_aae02 := fun w hw => List.mem_cons_of_mem _ ((g_RJ4 w hw).1)
  have kmw_467 := hts (Cond.fieldLink RJ5 22 "java/lang/AbstractStringBuilder" "coder" "B") (List.mem_cons_of_mem _ (gJ_of mw_467 rfl))
  have kmw_506 := hts (Cond.fieldLink RJ5 18 "java/lang/String" "COMPACT_STRINGS" "Z") (List.mem_cons_of_mem _ (gJ_of mw_506 rfl))
  have hgo : ∀ (H : Heap) (locs : List Loc), va_P D vwCl ([(b0, .inr (11, [.ref q0, .int 0, .int 0, .int (nI n0)])), (q0, .inl (T 3, cm, .inl a0))]) H → va_S A s.heap H locs → W p l e ({ frames := 0, cells := 0, slots := 0, locals := 0 } : Room) s m args below meth c H locs (0) (0) Q (F0 m 0 ls []) := by
    intro H locs hP hS
    refine va_gets hx hb (hX.1 0 (by decide)).2.2.2.2.1 hS hown kmw_506 (fun _ h9 => h9) dJ5_isLatin1_aae02_0 ?_
    refine lv_if_eq (tgt := 17) hx hb dJ5_isLatin1_aae02_3 (by decide) (fun c3 => ?_) (fun c3 => ?_)
    ·
      exact absurd c3 (by decide)
    ·
      refine lv_aload_n hx hb dJ5_isLatin1_aae02_6 rfl (lv_at hl 0 rfl) ?_
      refine va_get (D := D) (ci := 11) (v := .int 0) (C := RJ4) (T := TJ4) (N := 4) hx hb hts iRJ4 hown hK hP 0 rfl rfl 1 (by decide) kmw_467 (fun _ h9 => h9) rfl dJ5_isLatin1_aae02_7 ?_
      refine lv_if_ne (tgt := 17) hx hb dJ5_isLatin1_aae02_10 (by decide) (fun c10 => ?_) (fun c10 => ?_)
      ·
        exact absurd c10 (by decide)
      ·
        refine lv_iconst (v := 1) hx hb dJ5_isLatin1_aae02_13 (by decide) ?_
        refine lv_goto (tgt := 18) hx hb dJ5_isLatin1_aae02_14 (by decide) ?_
        exact hret _ _ _ _ _ _ 1 () dJ5_isLatin1_aae02_18 (rfl) hP hD hS (by omega) (by omega)
  exact hgo _ _ hP hS

set_option maxHeartbeats 4000000 in
set_option maxRecDepth 100000 in
theorem c_J5_inflateIfNeededFor_a7421 (l : Launch) (D : va_G) (T : Nat → ClassId) (x : JV) (b0 q0 cm n0 i : Nat) (a0 : Nat → Int32) (hi : i < 8) (sz : Nat) : Met l yJ5_inflateIfNeededFor_a7421 vtJ5_inflateIfNeededFor_a7421 ({ frames := 1, cells := 0, slots := 0, locals := 20 } : Room) (va_Pc [.ref (b0), .ref (x.1 i)] (JP D T x ([(b0, .inr (11, [.ref q0, .int 0, .int 0, .int (nI n0)])), (q0, .inl (T 3, cm, .inl a0))]) sz)) (va_Qv (fun (u : Unit) => True) (fun u t => QS D T (va_A ([(b0, .inr (11, [.ref q0, .int 0, .int 0, .int (nI n0)])), (q0, .inl (T 3, cm, .inl a0))]) sz) ([(b0, .inr (11, [.ref q0, .int 0, .int 0, .int (nI n0)])), (q0, .inl (T 3, cm, .inl a0))] : va_W) t) (va_A ([(b0, .inr (11, [.ref q0, .int 0, .int 0, .int (nI n0)])), (q0, .inl (T 3, cm, .inl a0))]) sz)) 0 0 (va_A ([(b0, .inr (11, [.ref q0, .int 0, .int 0, .int (nI n0)])), (q0, .inl (T 3, cm, .inl a0))]) sz) := by
  refine metJv (wu := fun (u : Unit) => ([(b0, .inr (11, [.ref q0, .int 0, .int 0, .int (nI n0)])), (q0, .inl (T 3, cm, .inl a0))] : va_W)) (cc := cJ5_inflateIfNeededFor_a7421) (maxL := 2) (by decide) rfl (Nat.le_of_ble_eq_true rfl) ?_
  intro p e s m args below meth c Q ls A hx hb hml hown hts hX hP hK hD hA hS hl hret
  have hown : s.vm.findClass RJ5 = some m.cls := hown
  have hl : lv_has ls 2 [(0, .ref (b0)), (1, .ref (x.1 i))] := hl
  have iRJ4 : ∀ w ∈ wsJ40, w ∈ vtJ5_inflateIfNeededFor_a7421 := fun w hw => List.mem_cons_of_mem _ ((g_RJ4 w hw).1)
  have kmw_467 := hts (Cond.fieldLink RJ5 22 "java/lang/AbstractStringBuilder" "coder" "B") (List.mem_cons_of_mem _ (gJ_of mw_467 rfl))
  have kmw_506 := hts (Cond.fieldLink RJ5 18 "java/lang/String" "COMPACT_STRINGS" "Z") (List.mem_cons_of_mem _ (gJ_of mw_506 rfl))
  have hXi := hX.1 i hi
  have hAL := AL_j hi
  have hln := (jL_ok i hi).1
  have hgo : ∀ (H : Heap) (locs : List Loc), va_P D vwCl ([(b0, .inr (11, [.ref q0, .int 0, .int 0, .int (nI n0)])), (q0, .inl (T 3, cm, .inl a0))]) H → va_S A s.heap H locs → W p l e ({ frames := 1, cells := 0, slots := 0, locals := 20 } : Room) s m args below meth c H locs (0) (0) Q (F0 m 0 ls []) := by
    intro H locs hP hS
    refine va_gets hx hb (hX.1 0 (by decide)).2.2.2.2.1 hS hown kmw_506 (fun _ h9 => h9) dJ5_inflateIfNeededFor_a7421_0 ?_
    refine lv_if_eq (tgt := 21) hx hb dJ5_inflateIfNeededFor_a7421_3 (by decide) (fun c3 => ?_) (fun c3 => ?_)
    ·
      exact absurd c3 (by decide)
    ·
      refine lv_aload_n hx hb dJ5_inflateIfNeededFor_a7421_6 rfl (lv_at hl 0 rfl) ?_
      refine va_get (D := D) (ci := 11) (v := .int 0) (C := RJ4) (T := TJ4) (N := 4) hx hb hts iRJ4 hown hK hP 0 rfl rfl 1 (by decide) kmw_467 (fun _ h9 => h9) rfl dJ5_inflateIfNeededFor_a7421_7 ?_
      refine lv_aload_n hx hb dJ5_inflateIfNeededFor_a7421_10 rfl (lv_at hl 1 rfl) ?_
      refine rdBV (As := []) (rest := [.int (0)]) (STF.bl (x.1 i) (x.2.1 i) ((jL i).length) ((jF (jL i))) nA) ⟨hx, hb, hml, hown, hts⟩ (c_J0_coder_7d493 l (x.1 i) (x.2.1 i) ((jL i).length) ((jF (jL i)))) (cwV 0 hts (gCJ gj72V_RJ5_40_J0_coder_7d493) rfl rfl rfl (by decide +kernel) ⟨Nat.le_of_ble_eq_true rfl, Nat.le_of_ble_eq_true rfl⟩) (fun U hU hv => hXi.at hS hU hv) (hXi.rc hS) rfl hl.1 rfl (Nat.le_of_ble_eq_true rfl) ⟨by show _ ≤ 0; omega, by show _ ≤ 0; omega⟩ dJ5_inflateIfNeededFor_a7421_11 ?_
      refine lv_icmp_eq (tgt := 21) hx hb dJ5_inflateIfNeededFor_a7421_14 (by decide) (fun c14 => ?_) (fun c14 => ?_)
      ·
        exact hret _ _ _ _ _ _ () dJ5_inflateIfNeededFor_a7421_21 (trivial) hP hD hS (by omega) (by omega)
      ·
        exact absurd c14 (by decide)
  exact hgo _ _ hP hS

set_option maxHeartbeats 4000000 in
set_option maxRecDepth 100000 in
theorem c_J0_getBytes_840e7 (l : Launch) (D : va_G) (T : Nat → ClassId) (x : JV) (q0 cm n0 i : Nat) (a0 : Nat → Int32) (hi : i < 8) (hm : cm ≤ 798) (hn0 : n0 + (jL i).length ≤ cm) (sz : Nat) : Met l yJ0_getBytes_840e7 vtJ0_getBytes_840e7 ({ frames := 1, cells := 0, slots := 0, locals := 60 } : Room) (va_Pc [.ref (x.1 i), .ref (q0), .int (nI n0), .int (0)] (JP D T x ([(q0, .inl (T 3, cm, .inl a0))]) sz)) (va_Qv (fun (u : Unit) => True) (fun u t => QS D T (va_A ([(q0, .inl (T 3, cm, .inl a0))]) sz) ([(q0, .inl (T 3, cm, .inl (va_cpy (jF (jL i)) a0 0 n0 (jL i).length)))] : va_W) t) (va_A ([(q0, .inl (T 3, cm, .inl a0))]) sz)) 0 0 (va_A ([(q0, .inl (T 3, cm, .inl a0))]) sz) := by
  refine metJv (wu := fun (u : Unit) => ([(q0, .inl (T 3, cm, .inl (va_cpy (jF (jL i)) a0 0 n0 (jL i).length)))] : va_W)) (cc := cJ0_getBytes_840e7) (maxL := 4) (by decide) rfl (Nat.le_of_ble_eq_true rfl) ?_
  intro p e s m args below meth c Q ls A hx hb hml hown hts hX hP hK hD hA hS hl hret
  have hown : s.vm.findClass RJ0 = some m.cls := hown
  have hl : lv_has ls 4 [(0, .ref (x.1 i)), (1, .ref (q0)), (2, .int (nI n0)), (3, .int (0))] := hl
  have kmw_211 := hts (Cond.fieldLink RJ0 9 "java/lang/String" "value" "[B") (List.mem_cons_of_mem _ (gJ_of mw_211 rfl))
  have kmw_358 := hts (Cond.initialized "java/lang/System") (List.mem_cons_of_mem _ (gJ_of mw_358 rfl))
  have kmw_359 := hts (Cond.static arraycopyName) (List.mem_cons_of_mem _ (gJ_of mw_359 rfl))
  have kmw_360 := hts (Cond.native arraycopyName) (List.mem_cons_of_mem _ (gJ_of mw_360 rfl))
  have kmw_549 := hts (Cond.methodLink RJ0 212 arraycopyName) (List.mem_cons_of_mem _ (gJ_of mw_549 rfl))
  have hXi := hX.1 i hi
  have hAL := AL_j hi
  have hln := (jL_ok i hi).1
  have hgo : ∀ (H : Heap) (locs : List Loc), va_P D vwCl ([(q0, .inl (T 3, cm, .inl a0))]) H → va_S A s.heap H locs → W p l e ({ frames := 1, cells := 0, slots := 0, locals := 60 } : Room) s m args below meth c H locs (0) (0) Q (F0 m 0 ls []) := by
    intro H locs hP hS
    refine lv_aload_n hx hb dJ0_getBytes_840e7_0 rfl (lv_at hl 0 rfl) ?_
    refine rdBV (As := []) (rest := []) (STF.bl (x.1 i) (x.2.1 i) ((jL i).length) ((jF (jL i))) nA) ⟨hx, hb, hml, hown, hts⟩ (c_J0_coder_7d493 l (x.1 i) (x.2.1 i) ((jL i).length) ((jF (jL i)))) (cwV 0 hts (gCJ gj72V_RJ0_335_J0_coder_7d493) rfl rfl rfl (by decide +kernel) ⟨Nat.le_of_ble_eq_true rfl, Nat.le_of_ble_eq_true rfl⟩) (fun U hU hv => hXi.at hS hU hv) (hXi.rc hS) rfl hl.1 rfl (Nat.le_of_ble_eq_true rfl) ⟨by show _ ≤ 0; omega, by show _ ≤ 0; omega⟩ dJ0_getBytes_840e7_1 ?_
    refine lv_iload_n hx hb dJ0_getBytes_840e7_4 rfl (lv_at hl 3 rfl) ?_
    refine lv_icmp_ne (tgt := 28) hx hb dJ0_getBytes_840e7_5 (by decide) (fun c5 => ?_) (fun c5 => ?_)
    ·
      exact absurd c5 (by decide)
    ·
      refine lv_aload_n hx hb dJ0_getBytes_840e7_8 rfl (lv_at hl 0 rfl) ?_
      refine vk_getf hx hb hXi.2.2.1 hS hown kmw_211 (fun _ h9 => h9) dJ0_getBytes_840e7_9 ?_
      refine lv_iconst (v := 0) hx hb dJ0_getBytes_840e7_12 (by decide) ?_
      refine lv_aload_n hx hb dJ0_getBytes_840e7_13 rfl (lv_at hl 1 rfl) ?_
      refine lv_iload_n hx hb dJ0_getBytes_840e7_14 rfl (lv_at hl 2 rfl) ?_
      refine lv_iload_n hx hb dJ0_getBytes_840e7_15 rfl (lv_at hl 3 rfl) ?_
      refine lv_ishl hx hb dJ0_getBytes_840e7_16 ?_
      refine endI (r := nI n0) (sb_shl0 _) ?_
      refine lv_aload_n hx hb dJ0_getBytes_840e7_17 rfl (lv_at hl 0 rfl) ?_
      refine vk_getf hx hb hXi.2.2.1 hS hown kmw_211 (fun _ h9 => h9) dJ0_getBytes_840e7_18 ?_
      refine va_tlen (v := nI ((jL i).length)) hx hb hXi.2.2.2.1 hS rfl dJ0_getBytes_840e7_21 ?_
      refine vk_copyt hx hb (hml.trans hl.1.symm) hown kmw_549 kmw_360 kmw_359 kmw_358 hK hP hD hS hXi.2.2.2.1 0 3 rfl rfl (by decide) (nI_pos (by omega)) (nI_pos (by omega)) (by rw [sb_cl0, nI_clamp (by omega)]; omega) (by rw [nI_clamp (by omega), nI_clamp (by omega)]; omega) (fun j _ => fit128 (hAL _)) (Nat.le_of_ble_eq_true rfl) (Nat.le_of_ble_eq_true rfl) dJ0_getBytes_840e7_22 (fun H locs hP hD hS => ?_)
      rw [sb_cl0, nI_clamp (n := n0) (by omega), nI_clamp (n := (jL i).length) (by omega)] at hP hD
      have hP : va_P D vwCl ([(q0, .inl (T 3, cm, .inl (va_cpy (jF (jL i)) a0 0 n0 (jL i).length)))]) H := hP
      have hD : va_D A ([(q0, .inl (T 3, cm, .inl (va_cpy (jF (jL i)) a0 0 n0 (jL i).length)))]) := hD
      refine lv_goto (tgt := 43) hx hb dJ0_getBytes_840e7_25 (by decide) ?_
      exact hret _ _ _ _ _ _ () dJ0_getBytes_840e7_43 (trivial) hP hD hS (by omega) (by omega)
  exact hgo _ _ hP hS

set_option maxHeartbeats 4000000 in
set_option maxRecDepth 100000 in
theorem c_J5_putStringAt_47b60 (l : Launch) (D : va_G) (T : Nat → ClassId) (x : JV) (b0 q0 cm n0 i : Nat) (a0 : Nat → Int32) (hi : i < 8) (hm : cm ≤ 798) (hn0 : n0 + (jL i).length ≤ cm) (sz : Nat) : Met l yJ5_putStringAt_47b60 vtJ5_putStringAt_47b60 ({ frames := 2, cells := 0, slots := 0, locals := 83 } : Room) (va_Pc [.ref (b0), .int (nI n0), .ref (x.1 i)] (JP D T x ([(b0, .inr (11, [.ref q0, .int 0, .int 0, .int (nI n0)])), (q0, .inl (T 3, cm, .inl a0))]) sz)) (va_Qv (fun (u : Unit) => True) (fun u t => QS D T (va_A ([(b0, .inr (11, [.ref q0, .int 0, .int 0, .int (nI n0)])), (q0, .inl (T 3, cm, .inl a0))]) sz) ([(b0, .inr (11, [.ref q0, .int 0, .int 0, .int (nI n0)])), (q0, .inl (T 3, cm, .inl (va_cpy (jF (jL i)) a0 0 n0 (jL i).length)))] : va_W) t) (va_A ([(b0, .inr (11, [.ref q0, .int 0, .int 0, .int (nI n0)])), (q0, .inl (T 3, cm, .inl a0))]) sz)) 0 0 (va_A ([(b0, .inr (11, [.ref q0, .int 0, .int 0, .int (nI n0)])), (q0, .inl (T 3, cm, .inl a0))]) sz) := by
  refine metJv (wu := fun (u : Unit) => ([(b0, .inr (11, [.ref q0, .int 0, .int 0, .int (nI n0)])), (q0, .inl (T 3, cm, .inl (va_cpy (jF (jL i)) a0 0 n0 (jL i).length)))] : va_W)) (cc := cJ5_putStringAt_47b60) (maxL := 3) (by decide) rfl (Nat.le_of_ble_eq_true rfl) ?_
  intro p e s m args below meth c Q ls A hx hb hml hown hts hX hP hK hD hA hS hl hret
  have hown : s.vm.findClass RJ5 = some m.cls := hown
  have hl : lv_has ls 3 [(0, .ref (b0)), (1, .int (nI n0)), (2, .ref (x.1 i))] := hl
  have iRJ4 : ∀ w ∈ wsJ40, w ∈ vtJ5_putStringAt_47b60 := fun w hw => List.mem_cons_of_mem _ ((g_RJ4 w hw).1)
  have kmw_466 := hts (Cond.fieldLink RJ5 15 "java/lang/AbstractStringBuilder" "value" "[B") (List.mem_cons_of_mem _ (gJ_of mw_466 rfl))
  have kmw_467 := hts (Cond.fieldLink RJ5 22 "java/lang/AbstractStringBuilder" "coder" "B") (List.mem_cons_of_mem _ (gJ_of mw_467 rfl))
  have hXi := hX.1 i hi
  have hAL := AL_j hi
  have hln := (jL_ok i hi).1
  have hgo : ∀ (H : Heap) (locs : List Loc), va_P D vwCl ([(b0, .inr (11, [.ref q0, .int 0, .int 0, .int (nI n0)])), (q0, .inl (T 3, cm, .inl a0))]) H → va_S A s.heap H locs → W p l e ({ frames := 2, cells := 0, slots := 0, locals := 83 } : Room) s m args below meth c H locs (0) (0) Q (F0 m 0 ls []) := by
    intro H locs hP hS
    refine lv_aload_n hx hb dJ5_putStringAt_47b60_0 rfl (lv_at hl 0 rfl) ?_
    refine lv_aload_n hx hb dJ5_putStringAt_47b60_1 rfl (lv_at hl 2 rfl) ?_
    have hF0 : Foc [(b0, .inr (11, [.ref q0, .int 0, .int 0, .int (nI n0)])), (q0, .inl (T 3, cm, .inl a0))] [(b0, .inr (11, [.ref q0, .int 0, .int 0, .int (nI n0)])), (q0, .inl (T 3, cm, .inl a0))] [(b0, .inr (11, [.ref q0, .int 0, .int 0, .int (nI n0)])), (q0, .inl (T 3, cm, .inl a0))] [(b0, .inr (11, [.ref q0, .int 0, .int 0, .int (nI n0)])), (q0, .inl (T 3, cm, .inl a0))] := Foc.rfl _ _
    refine jtv (S := Unit) (ws1 := fun u => ([(b0, .inr (11, [.ref q0, .int 0, .int 0, .int (nI n0)])), (q0, .inl (T 3, cm, .inl a0))] : va_W)) (wc1 := fun u => ([(b0, .inr (11, [.ref q0, .int 0, .int 0, .int (nI n0)])), (q0, .inl (T 3, cm, .inl a0))] : va_W)) (va_runV (C := RJ4) (b := b0) (As := [.ref (x.1 i)]) (rest := []) ⟨hx, hb, hml, hown, hts⟩ (c_J5_inflateIfNeededFor_a7421 l D T x b0 q0 cm n0 i a0 hi _) (cwP 1 hts (gCJ gj72P_RJ5_397_J5_inflateIfNeededFor_a7421) rfl rfl rfl (by decide +kernel) ⟨Nat.le_of_ble_eq_true rfl, Nat.le_of_ble_eq_true rfl⟩) ⟨JP.blind _ _ _ _ _ _, va_recv (ci := 11) (q0 := 0) hK ((hF0).subP hP) rfl rfl, jpre (As := [.ref (b0), .ref (x.1 i)]) hF0 hX hK hP hD hS hA⟩ rfl rfl hl.1 rfl (lv_room (m := m) (pc := 2) (ls := ls) (rest := [.ref (x.1 i), .ref (b0)]) (st := []) (Nat.le_of_ble_eq_true rfl)) dJ5_putStringAt_47b60_2 ⟨by show _ ≤ 0; omega, by show _ ≤ 0; omega⟩) (fun u => Foc.rfl _ _) (hF0) hP hD hS hA (fun u H locs hr hP hD hS => ?_)
    have hP : va_P D vwCl ([(b0, .inr (11, [.ref q0, .int 0, .int 0, .int (nI n0)])), (q0, .inl (T 3, cm, .inl a0))]) H := hP
    have hD : va_D A ([(b0, .inr (11, [.ref q0, .int 0, .int 0, .int (nI n0)])), (q0, .inl (T 3, cm, .inl a0))]) := hD
    refine lv_aload_n hx hb dJ5_putStringAt_47b60_5 rfl (lv_at hl 2 rfl) ?_
    refine lv_aload_n hx hb dJ5_putStringAt_47b60_6 rfl (lv_at hl 0 rfl) ?_
    refine va_get (D := D) (ci := 11) (v := .ref q0) (C := RJ4) (T := TJ4) (N := 4) hx hb hts iRJ4 hown hK hP 0 rfl rfl 0 (by decide) kmw_466 (fun _ h9 => h9) rfl dJ5_putStringAt_47b60_7 ?_
    refine lv_iload_n hx hb dJ5_putStringAt_47b60_10 rfl (lv_at hl 1 rfl) ?_
    refine lv_aload_n hx hb dJ5_putStringAt_47b60_11 rfl (lv_at hl 0 rfl) ?_
    refine va_get (D := D) (ci := 11) (v := .int 0) (C := RJ4) (T := TJ4) (N := 4) hx hb hts iRJ4 hown hK hP 0 rfl rfl 1 (by decide) kmw_467 (fun _ h9 => h9) rfl dJ5_putStringAt_47b60_12 ?_
    have hF0 : Foc [(b0, .inr (11, [.ref q0, .int 0, .int 0, .int (nI n0)])), (q0, .inl (T 3, cm, .inl a0))] [(q0, .inl (T 3, cm, .inl a0))] [(b0, .inr (11, [.ref q0, .int 0, .int 0, .int (nI n0)])), (q0, .inl (T 3, cm, .inl a0))] [(q0, .inl (T 3, cm, .inl a0))] := Foc.pre [(b0, .inr (11, [.ref q0, .int 0, .int 0, .int (nI n0)]))] _ _
    refine jtv (S := Unit) (ws1 := fun u => ([(b0, .inr (11, [.ref q0, .int 0, .int 0, .int (nI n0)]))] ++ [(q0, .inl (T 3, cm, .inl (va_cpy (jF (jL i)) a0 0 n0 (jL i).length)))] : va_W)) (wc1 := fun u => ([(q0, .inl (T 3, cm, .inl (va_cpy (jF (jL i)) a0 0 n0 (jL i).length)))] : va_W)) (va_runV (C := RJ0) (b := (x.1 i)) (As := [.ref (q0), .int (nI n0), .int (0)]) (rest := []) ⟨hx, hb, hml, hown, hts⟩ (c_J0_getBytes_840e7 l D T x q0 cm n0 i a0 hi hm hn0 _) (cwV 3 hts (gCJ gj72V_RJ5_399_J0_getBytes_840e7) rfl rfl rfl (by decide +kernel) ⟨Nat.le_of_ble_eq_true rfl, Nat.le_of_ble_eq_true rfl⟩) ⟨JP.blind _ _ _ _ _ _, (hXi.rc hS), jpre (As := [.ref (x.1 i), .ref (q0), .int (nI n0), .int (0)]) hF0 hX hK hP hD hS hA⟩ rfl rfl hl.1 rfl (lv_room (m := m) (pc := 15) (ls := ls) (rest := [.int (0), .int (nI n0), .ref (q0), .ref (x.1 i)]) (st := []) (Nat.le_of_ble_eq_true rfl)) dJ5_putStringAt_47b60_15 ⟨by show _ ≤ 0; omega, by show _ ≤ 0; omega⟩) (fun u => Foc.pre [(b0, .inr (11, [.ref q0, .int 0, .int 0, .int (nI n0)]))] _ _) (hF0) hP hD hS hA (fun u H locs hr hP hD hS => ?_)
    have hP : va_P D vwCl ([(b0, .inr (11, [.ref q0, .int 0, .int 0, .int (nI n0)])), (q0, .inl (T 3, cm, .inl (va_cpy (jF (jL i)) a0 0 n0 (jL i).length)))]) H := hP
    have hD : va_D A ([(b0, .inr (11, [.ref q0, .int 0, .int 0, .int (nI n0)])), (q0, .inl (T 3, cm, .inl (va_cpy (jF (jL i)) a0 0 n0 (jL i).length)))]) := hD
    exact hret _ _ _ _ _ _ () dJ5_putStringAt_47b60_18 (trivial) hP hD hS (by omega) (by omega)
  exact hgo _ _ hP hS

set_option maxHeartbeats 4000000 in
set_option maxRecDepth 100000 in
theorem c_J5_append_cf1ce (l : Launch) (D : va_G) (T : Nat → ClassId) (x : JV) (b0 q0 cm n0 i : Nat) (a0 : Nat → Int32) (hi : i < 8) (hm : cm ≤ 798) (hn : n0 ≤ cm) (hn0 : n0 + (jL i).length ≤ 398) (hf : sb_Fit a0) (sz : Nat) : Met l yJ5_append_cf1ce vtJ5_append_cf1ce ({ frames := 4, cells := 1, slots := 798, locals := 105 } : Room) (va_Pc [.ref (b0), .ref (x.1 i)] (JP D T x ([(b0, .inr (11, [.ref q0, .int 0, .int 0, .int (nI n0)])), (q0, .inl (T 3, cm, .inl a0))]) sz)) (va_Qr (fun (u : SBU) => (n0 + (jL i).length ≤ u.2.1 ∧ u.2.1 ≤ 798 ∧ sb_Fit u.2.2 ∧ (∀ j, j < n0 → u.2.2 j = a0 j) ∧ ∀ j, j < (jL i).length → u.2.2 (n0 + j) = jF (jL i) j)) (fun u b9 t => b9 = (fun (u : SBU) => b0) u ∧ QS D T (va_A ([(b0, .inr (11, [.ref q0, .int 0, .int 0, .int (nI n0)])), (q0, .inl (T 3, cm, .inl a0))]) sz) ([(b0, .inr (11, [.ref u.1, .int 0, .int 0, .int (nI (n0 + (jL i).length))])), (u.1, .inl (T 3, u.2.1, .inl u.2.2))] : va_W) t) (va_A ([(b0, .inr (11, [.ref q0, .int 0, .int 0, .int (nI n0)])), (q0, .inl (T 3, cm, .inl a0))]) sz)) 1 798 (va_A ([(b0, .inr (11, [.ref q0, .int 0, .int 0, .int (nI n0)])), (q0, .inl (T 3, cm, .inl a0))]) sz) := by
  refine metJr (ty := (.object "java/lang/AbstractStringBuilder")) (wu := fun (u : SBU) => ([(b0, .inr (11, [.ref u.1, .int 0, .int 0, .int (nI (n0 + (jL i).length))])), (u.1, .inl (T 3, u.2.1, .inl u.2.2))] : va_W)) (ru := fun (u : SBU) => b0) (cc := cJ5_append_cf1ce) (maxL := 3) (by decide) rfl (Or.inl ⟨_, rfl⟩) (Nat.le_of_ble_eq_true rfl) ?_
  intro p e s m args below meth c Q ls A hx hb hml hown hts hX hP hK hD hA hS hl hret
  have hown : s.vm.findClass RJ5 = some m.cls := hown
  have hl : lv_has ls 3 [(0, .ref (b0)), (1, .ref (x.1 i))] := hl
  have iRJ4 : ∀ w ∈ wsJ40, w ∈ vtJ5_append_cf1ce := fun w hw => List.mem_cons_of_mem _ ((g_RJ4 w hw).1)
  have kmw_498 := hts (Cond.fieldLink RJ5 79 "java/lang/AbstractStringBuilder" "count" "I") (List.mem_cons_of_mem _ (gJ_of mw_498 rfl))
  have hXi := hX.1 i hi
  have hAL := AL_j hi
  have hln := (jL_ok i hi).1
  have hgo : ∀ (H : Heap) (locs : List Loc), va_P D vwCl ([(b0, .inr (11, [.ref q0, .int 0, .int 0, .int (nI n0)])), (q0, .inl (T 3, cm, .inl a0))]) H → va_S A s.heap H locs → W p l e ({ frames := 4, cells := 1, slots := 798, locals := 105 } : Room) s m args below meth c H locs (0) (0) Q (F0 m 0 ls []) := by
    intro H locs hP hS
    refine lv_aload_n hx hb dJ5_append_cf1ce_0 rfl (lv_at hl 1 rfl) ?_
    refine lv_ifnonnull (tgt := 9) hx hb dJ5_append_cf1ce_1 (by decide) ?_
    refine lv_aload_n hx hb dJ5_append_cf1ce_9 rfl (lv_at hl 1 rfl) ?_
    refine rdBV (As := []) (rest := []) (STF.bl (x.1 i) (x.2.1 i) ((jL i).length) ((jF (jL i))) nA) ⟨hx, hb, hml, hown, hts⟩ (c_J0_length_8abf5 l (x.1 i) (x.2.1 i) ((jL i).length) ((jF (jL i)))) (cwV 0 hts (gCJ gj72V_RJ5_32_J0_length_8abf5) rfl rfl rfl (by decide +kernel) ⟨Nat.le_of_ble_eq_true rfl, Nat.le_of_ble_eq_true rfl⟩) (fun U hU hv => hXi.at hS hU hv) (hXi.rc hS) rfl hl.1 rfl (Nat.le_of_ble_eq_true rfl) ⟨by show _ ≤ 1; omega, by show _ ≤ 798; omega⟩ dJ5_append_cf1ce_10 ?_
    refine lv_istore_n (lv' := [(2, .int (nI (jL i).length)), (0, .ref (b0)), (1, .ref (x.1 i))]) hx hb dJ5_append_cf1ce_13 rfl hl (by decide) rfl (fun ls hl => ?_)
    refine lv_aload_n hx hb dJ5_append_cf1ce_14 rfl (lv_at hl 1 rfl) ?_
    refine lv_aload_n hx hb dJ5_append_cf1ce_15 rfl (lv_at hl 1 rfl) ?_
    refine va_get (D := D) (ci := 11) (v := .int (nI n0)) (C := RJ4) (T := TJ4) (N := 4) hx hb hts iRJ4 hown hK hP 0 rfl rfl 3 (by decide) kmw_498 (fun _ h9 => h9) rfl dJ5_append_cf1ce_16 ?_
    refine lv_iload_n hx hb dJ5_append_cf1ce_19 rfl (lv_at hl 0 rfl) ?_
    refine lv_iadd hx hb dJ5_append_cf1ce_20 ?_
    refine endI (r := nI (n0 + ((jL i).length))) (nI_add _ _) ?_
    have hF0 : Foc [(b0, .inr (11, [.ref q0, .int 0, .int 0, .int (nI n0)])), (q0, .inl (T 3, cm, .inl a0))] [(b0, .inr (11, [.ref q0, .int 0, .int 0, .int (nI n0)])), (q0, .inl (T 3, cm, .inl a0))] [(b0, .inr (11, [.ref q0, .int 0, .int 0, .int (nI n0)])), (q0, .inl (T 3, cm, .inl a0))] [(b0, .inr (11, [.ref q0, .int 0, .int 0, .int (nI n0)])), (q0, .inl (T 3, cm, .inl a0))] := Foc.rfl _ _
    refine jtv (S := SBU) (ws1 := fun u => ([(b0, .inr (11, [.ref u.1, .int 0, .int 0, .int (nI n0)])), (u.1, .inl (T 3, u.2.1, .inl u.2.2))] : va_W)) (wc1 := fun u => ([(b0, .inr (11, [.ref u.1, .int 0, .int 0, .int (nI n0)])), (u.1, .inl (T 3, u.2.1, .inl u.2.2))] : va_W)) (va_runV (C := RJ4) (b := b0) (As := [.int (nI (n0 + ((jL i).length)))]) (rest := []) ⟨hx, hb, hml, hown, hts⟩ (c_J5_ensureCapacityInternal_d00df l D T x b0 q0 cm (n0 + (jL i).length) n0 a0 hm hn0 hf _) (cwP 1 hts (gCJ gj72P_RJ5_100_J5_ensureCapacityInternal_d00df) rfl rfl rfl (by decide +kernel) ⟨Nat.le_of_ble_eq_true rfl, Nat.le_of_ble_eq_true rfl⟩) ⟨JP.blind _ _ _ _ _ _, va_recv (ci := 11) (q0 := 0) hK ((hF0).subP hP) rfl rfl, jpre (As := [.ref (b0), .int (nI (n0 + ((jL i).length)))]) hF0 hX hK hP hD hS hA⟩ rfl rfl hl.1 rfl (lv_room (m := m) (pc := 21) (ls := ls) (rest := [.int (nI (n0 + ((jL i).length))), .ref (b0)]) (st := []) (Nat.le_of_ble_eq_true rfl)) dJ5_append_cf1ce_21 ⟨by show _ ≤ 1; omega, by show _ ≤ 798; omega⟩) (fun u => Foc.rfl _ _) (hF0) hP hD hS hA (fun u H locs hr hP hD hS => ?_)
    obtain ⟨q9, m9, a9⟩ := u
    obtain ⟨hm1, hm2, hm3, hf9, hk9⟩ := hr
    replace hm1 : n0 + (jL i).length ≤ m9 := hm1
    replace hm3 : m9 ≤ 798 := hm3
    have hP : va_P D vwCl ([(b0, .inr (11, [.ref q9, .int 0, .int 0, .int (nI n0)])), (q9, .inl (T 3, m9, .inl a9))]) H := hP
    have hD : va_D A ([(b0, .inr (11, [.ref q9, .int 0, .int 0, .int (nI n0)])), (q9, .inl (T 3, m9, .inl a9))]) := hD
    refine lv_aload_n hx hb dJ5_append_cf1ce_24 rfl (lv_at hl 1 rfl) ?_
    refine lv_aload_n hx hb dJ5_append_cf1ce_25 rfl (lv_at hl 1 rfl) ?_
    refine va_get (D := D) (ci := 11) (v := .int (nI n0)) (C := RJ4) (T := TJ4) (N := 4) hx hb hts iRJ4 hown hK hP 0 rfl rfl 3 (by decide) kmw_498 (fun _ h9 => h9) rfl dJ5_append_cf1ce_26 ?_
    refine lv_aload_n hx hb dJ5_append_cf1ce_29 rfl (lv_at hl 2 rfl) ?_
    have hF0 : Foc [(b0, .inr (11, [.ref q9, .int 0, .int 0, .int (nI n0)])), (q9, .inl (T 3, m9, .inl a9))] [(b0, .inr (11, [.ref q9, .int 0, .int 0, .int (nI n0)])), (q9, .inl (T 3, m9, .inl a9))] [(b0, .inr (11, [.ref q9, .int 0, .int 0, .int (nI n0)])), (q9, .inl (T 3, m9, .inl a9))] [(b0, .inr (11, [.ref q9, .int 0, .int 0, .int (nI n0)])), (q9, .inl (T 3, m9, .inl a9))] := Foc.rfl _ _
    refine jtv (S := Unit) (ws1 := fun u => ([(b0, .inr (11, [.ref q9, .int 0, .int 0, .int (nI n0)])), (q9, .inl (T 3, m9, .inl (va_cpy (jF (jL i)) a9 0 n0 (jL i).length)))] : va_W)) (wc1 := fun u => ([(b0, .inr (11, [.ref q9, .int 0, .int 0, .int (nI n0)])), (q9, .inl (T 3, m9, .inl (va_cpy (jF (jL i)) a9 0 n0 (jL i).length)))] : va_W)) (va_runV (C := RJ4) (b := b0) (As := [.int (nI n0), .ref (x.1 i)]) (rest := []) ⟨hx, hb, hml, hown, hts⟩ (c_J5_putStringAt_47b60 l D T x b0 q9 m9 n0 i a9 hi hm3 hm1 _) (cwP 2 hts (gCJ gj72P_RJ5_208_J5_putStringAt_47b60) rfl rfl rfl (by decide +kernel) ⟨Nat.le_of_ble_eq_true rfl, Nat.le_of_ble_eq_true rfl⟩) ⟨JP.blind _ _ _ _ _ _, va_recv (ci := 11) (q0 := 0) hK ((hF0).subP hP) rfl rfl, jpre (As := [.ref (b0), .int (nI n0), .ref (x.1 i)]) hF0 hX hK hP hD hS hA⟩ rfl rfl hl.1 rfl (lv_room (m := m) (pc := 30) (ls := ls) (rest := [.ref (x.1 i), .int (nI n0), .ref (b0)]) (st := []) (Nat.le_of_ble_eq_true rfl)) dJ5_append_cf1ce_30 ⟨by show _ ≤ 1; omega, by show _ ≤ 798; omega⟩) (fun u => Foc.rfl _ _) (hF0) hP hD hS hA (fun u H locs hr hP hD hS => ?_)
    have hP : va_P D vwCl ([(b0, .inr (11, [.ref q9, .int 0, .int 0, .int (nI n0)])), (q9, .inl (T 3, m9, .inl (va_cpy (jF (jL i)) a9 0 n0 (jL i).length)))]) H := hP
    have hD : va_D A ([(b0, .inr (11, [.ref q9, .int 0, .int 0, .int (nI n0)])), (q9, .inl (T 3, m9, .inl (va_cpy (jF (jL i)) a9 0 n0 (jL i).length)))]) := hD
    refine lv_aload_n hx hb dJ5_append_cf1ce_33 rfl (lv_at hl 1 rfl) ?_
    refine lv_dup hx hb dJ5_append_cf1ce_34 rfl ?_
    refine va_get (D := D) (ci := 11) (v := .int (nI n0)) (C := RJ4) (T := TJ4) (N := 4) hx hb hts iRJ4 hown hK hP 0 rfl rfl 3 (by decide) kmw_498 (fun _ h9 => h9) rfl dJ5_append_cf1ce_35 ?_
    refine lv_iload_n hx hb dJ5_append_cf1ce_38 rfl (lv_at hl 0 rfl) ?_
    refine lv_iadd hx hb dJ5_append_cf1ce_39 ?_
    refine endI (r := nI (n0 + ((jL i).length))) (nI_add _ _) ?_
    refine va_put (D := D) (ci := 11) (v := .int (nI (n0 + ((jL i).length)))) (ty := .int) (C := RJ4) (T := TJ4) (N := 4) hx hb hts iRJ4 tyJ4 tyJ4_ok nmJ4 hown hK hP hD hS 0 rfl rfl 3 (by decide) kmw_498 (fun _ h9 => h9) rfl (by decide +kernel) rfl rfl (Nat.le_of_ble_eq_true rfl) dJ5_append_cf1ce_40 (fun H locs hP hD hS => ?_)
    have hP : va_P D vwCl ([(b0, .inr (11, [.ref q9, .int 0, .int 0, .int (nI (n0 + ((jL i).length)))])), (q9, .inl (T 3, m9, .inl (va_cpy (jF (jL i)) a9 0 n0 (jL i).length)))]) H := hP
    have hD : va_D A ([(b0, .inr (11, [.ref q9, .int 0, .int 0, .int (nI (n0 + ((jL i).length)))])), (q9, .inl (T 3, m9, .inl (va_cpy (jF (jL i)) a9 0 n0 (jL i).length)))]) := hD
    refine lv_aload_n hx hb dJ5_append_cf1ce_43 rfl (lv_at hl 1 rfl) ?_
    exact hret _ _ _ _ _ _ (q9, m9, va_cpy (jF (jL i)) a9 0 n0 (jL i).length) dJ5_append_cf1ce_44 (⟨hm1, hm3, sb_fitC (fun j => fit128 (hAL j)) hf9, fun j hj => (pk_cpy_out (Or.inl hj)).trans (hk9 j (by omega)), fun j hj => by show va_cpy (jF (jL i)) a9 0 n0 (jL i).length (n0 + j) = _; rw [pk_cpy_in (by omega) (by omega)]; congr 1; omega⟩) hP hD hS (by omega) (by omega)
  exact hgo _ _ hP hS

set_option maxHeartbeats 4000000 in
set_option maxRecDepth 100000 in
theorem c_J4_append_15ec4 (l : Launch) (D : va_G) (T : Nat → ClassId) (x : JV) (b0 q0 cm n0 i : Nat) (a0 : Nat → Int32) (hi : i < 8) (hm : cm ≤ 798) (hn : n0 ≤ cm) (hn0 : n0 + (jL i).length ≤ 398) (hf : sb_Fit a0) (sz : Nat) : Met l yJ4_append_15ec4 vtJ4_append_15ec4 ({ frames := 5, cells := 1, slots := 798, locals := 127 } : Room) (va_Pc [.ref (b0), .ref (x.1 i)] (JP D T x ([(b0, .inr (11, [.ref q0, .int 0, .int 0, .int (nI n0)])), (q0, .inl (T 3, cm, .inl a0))]) sz)) (va_Qr (fun (u : SBU) => (n0 + (jL i).length ≤ u.2.1 ∧ u.2.1 ≤ 798 ∧ sb_Fit u.2.2 ∧ (∀ j, j < n0 → u.2.2 j = a0 j) ∧ ∀ j, j < (jL i).length → u.2.2 (n0 + j) = jF (jL i) j)) (fun u b9 t => b9 = (fun (u : SBU) => b0) u ∧ QS D T (va_A ([(b0, .inr (11, [.ref q0, .int 0, .int 0, .int (nI n0)])), (q0, .inl (T 3, cm, .inl a0))]) sz) ([(b0, .inr (11, [.ref u.1, .int 0, .int 0, .int (nI (n0 + (jL i).length))])), (u.1, .inl (T 3, u.2.1, .inl u.2.2))] : va_W) t) (va_A ([(b0, .inr (11, [.ref q0, .int 0, .int 0, .int (nI n0)])), (q0, .inl (T 3, cm, .inl a0))]) sz)) 1 798 (va_A ([(b0, .inr (11, [.ref q0, .int 0, .int 0, .int (nI n0)])), (q0, .inl (T 3, cm, .inl a0))]) sz) := by
  refine metJr (ty := (.object "java/lang/StringBuilder")) (wu := fun (u : SBU) => ([(b0, .inr (11, [.ref u.1, .int 0, .int 0, .int (nI (n0 + (jL i).length))])), (u.1, .inl (T 3, u.2.1, .inl u.2.2))] : va_W)) (ru := fun (u : SBU) => b0) (cc := cJ4_append_15ec4) (maxL := 2) (by decide) rfl (Or.inl ⟨_, rfl⟩) (Nat.le_of_ble_eq_true rfl) ?_
  intro p e s m args below meth c Q ls A hx hb hml hown hts hX hP hK hD hA hS hl hret
  have hown : s.vm.findClass RJ4 = some m.cls := hown
  have hl : lv_has ls 2 [(0, .ref (b0)), (1, .ref (x.1 i))] := hl
  have hXi := hX.1 i hi
  have hAL := AL_j hi
  have hln := (jL_ok i hi).1
  have hgo : ∀ (H : Heap) (locs : List Loc), va_P D vwCl ([(b0, .inr (11, [.ref q0, .int 0, .int 0, .int (nI n0)])), (q0, .inl (T 3, cm, .inl a0))]) H → va_S A s.heap H locs → W p l e ({ frames := 5, cells := 1, slots := 798, locals := 127 } : Room) s m args below meth c H locs (0) (0) Q (F0 m 0 ls []) := by
    intro H locs hP hS
    refine lv_aload_n hx hb dJ4_append_15ec4_0 rfl (lv_at hl 0 rfl) ?_
    refine lv_aload_n hx hb dJ4_append_15ec4_1 rfl (lv_at hl 1 rfl) ?_
    have hF0 : Foc [(b0, .inr (11, [.ref q0, .int 0, .int 0, .int (nI n0)])), (q0, .inl (T 3, cm, .inl a0))] [(b0, .inr (11, [.ref q0, .int 0, .int 0, .int (nI n0)])), (q0, .inl (T 3, cm, .inl a0))] [(b0, .inr (11, [.ref q0, .int 0, .int 0, .int (nI n0)])), (q0, .inl (T 3, cm, .inl a0))] [(b0, .inr (11, [.ref q0, .int 0, .int 0, .int (nI n0)])), (q0, .inl (T 3, cm, .inl a0))] := Foc.rfl _ _
    refine jtr (S := SBU) (ws1 := fun u => ([(b0, .inr (11, [.ref u.1, .int 0, .int 0, .int (nI (n0 + (jL i).length))])), (u.1, .inl (T 3, u.2.1, .inl u.2.2))] : va_W)) (wc1 := fun u => ([(b0, .inr (11, [.ref u.1, .int 0, .int 0, .int (nI (n0 + (jL i).length))])), (u.1, .inl (T 3, u.2.1, .inl u.2.2))] : va_W)) (ru := fun u => b0) (va_runSU (C := RJ4) (b := b0) (As := [.ref (x.1 i)]) (rest := []) (hK.1 11 _ rfl).2 ⟨hx, hb, hml, hown, hts⟩ (c_J5_append_cf1ce l D T x b0 q0 cm n0 i a0 hi hm hn hn0 hf _) (va_cwSU 1 hts (gCJ gj72SU_RJ4_29_J5_append_cf1ce) rfl rfl rfl (by decide +kernel) ⟨Nat.le_of_ble_eq_true rfl, Nat.le_of_ble_eq_true rfl⟩) ⟨JP.blind _ _ _ _ _ _, va_recv (ci := 11) (q0 := 0) hK ((hF0).subP hP) rfl rfl, jpre (As := [.ref (b0), .ref (x.1 i)]) hF0 hX hK hP hD hS hA⟩ rfl rfl hl.1 rfl (lv_room (m := m) (pc := 2) (ls := ls) (rest := [.ref (x.1 i), .ref (b0)]) (st := []) (Nat.le_of_ble_eq_true rfl)) dJ4_append_15ec4_2 ⟨by show _ ≤ 1; omega, by show _ ≤ 798; omega⟩) (fun u => Foc.rfl _ _) (hF0) hP hD hS hA (fun u H locs hr hP hD hS => ?_)
    obtain ⟨q9, m9, a9⟩ := u
    have hP : va_P D vwCl ([(b0, .inr (11, [.ref q9, .int 0, .int 0, .int (nI (n0 + (jL i).length))])), (q9, .inl (T 3, m9, .inl a9))]) H := hP
    have hD : va_D A ([(b0, .inr (11, [.ref q9, .int 0, .int 0, .int (nI (n0 + (jL i).length))])), (q9, .inl (T 3, m9, .inl a9))]) := hD
    refine lv_pop hx hb dJ4_append_15ec4_5 rfl ?_
    refine lv_aload_n hx hb dJ4_append_15ec4_6 rfl (lv_at hl 0 rfl) ?_
    exact hret _ _ _ _ _ _ (q9, m9, a9) dJ4_append_15ec4_7 (hr) hP hD hS (by omega) (by omega)
  exact hgo _ _ hP hS

set_option maxHeartbeats 4000000 in
set_option maxRecDepth 100000 in
theorem c_J4_append_cf1ce (l : Launch) (D : va_G) (T : Nat → ClassId) (x : JV) (b0 q0 cm n0 i : Nat) (a0 : Nat → Int32) (hi : i < 8) (hm : cm ≤ 798) (hn : n0 ≤ cm) (hn0 : n0 + (jL i).length ≤ 398) (hf : sb_Fit a0) (sz : Nat) : Met l yJ4_append_cf1ce vtJ4_append_cf1ce ({ frames := 6, cells := 1, slots := 798, locals := 148 } : Room) (va_Pc [.ref (b0), .ref (x.1 i)] (JP D T x ([(b0, .inr (11, [.ref q0, .int 0, .int 0, .int (nI n0)])), (q0, .inl (T 3, cm, .inl a0))]) sz)) (va_Qr (fun (u : SBU) => (n0 + (jL i).length ≤ u.2.1 ∧ u.2.1 ≤ 798 ∧ sb_Fit u.2.2 ∧ (∀ j, j < n0 → u.2.2 j = a0 j) ∧ ∀ j, j < (jL i).length → u.2.2 (n0 + j) = jF (jL i) j)) (fun u b9 t => b9 = (fun (u : SBU) => b0) u ∧ QS D T (va_A ([(b0, .inr (11, [.ref q0, .int 0, .int 0, .int (nI n0)])), (q0, .inl (T 3, cm, .inl a0))]) sz) ([(b0, .inr (11, [.ref u.1, .int 0, .int 0, .int (nI (n0 + (jL i).length))])), (u.1, .inl (T 3, u.2.1, .inl u.2.2))] : va_W) t) (va_A ([(b0, .inr (11, [.ref q0, .int 0, .int 0, .int (nI n0)])), (q0, .inl (T 3, cm, .inl a0))]) sz)) 1 798 (va_A ([(b0, .inr (11, [.ref q0, .int 0, .int 0, .int (nI n0)])), (q0, .inl (T 3, cm, .inl a0))]) sz) := by
  refine metJr (ty := (.object "java/lang/AbstractStringBuilder")) (wu := fun (u : SBU) => ([(b0, .inr (11, [.ref u.1, .int 0, .int 0, .int (nI (n0 + (jL i).length))])), (u.1, .inl (T 3, u.2.1, .inl u.2.2))] : va_W)) (ru := fun (u : SBU) => b0) (cc := cJ4_append_cf1ce) (maxL := 2) (by decide) rfl (Or.inl ⟨_, rfl⟩) (Nat.le_of_ble_eq_true rfl) ?_
  intro p e s m args below meth c Q ls A hx hb hml hown hts hX hP hK hD hA hS hl hret
  have hown : s.vm.findClass RJ4 = some m.cls := hown
  have hl : lv_has ls 2 [(0, .ref (b0)), (1, .ref (x.1 i))] := hl
  have hXi := hX.1 i hi
  have hAL := AL_j hi
  have hln := (jL_ok i hi).1
  have hgo : ∀ (H : Heap) (locs : List Loc), va_P D vwCl ([(b0, .inr (11, [.ref q0, .int 0, .int 0, .int (nI n0)])), (q0, .inl (T 3, cm, .inl a0))]) H → va_S A s.heap H locs → W p l e ({ frames := 6, cells := 1, slots := 798, locals := 148 } : Room) s m args below meth c H locs (0) (0) Q (F0 m 0 ls []) := by
    intro H locs hP hS
    refine lv_aload_n hx hb dJ4_append_cf1ce_0 rfl (lv_at hl 0 rfl) ?_
    refine lv_aload_n hx hb dJ4_append_cf1ce_1 rfl (lv_at hl 1 rfl) ?_
    have hF0 : Foc [(b0, .inr (11, [.ref q0, .int 0, .int 0, .int (nI n0)])), (q0, .inl (T 3, cm, .inl a0))] [(b0, .inr (11, [.ref q0, .int 0, .int 0, .int (nI n0)])), (q0, .inl (T 3, cm, .inl a0))] [(b0, .inr (11, [.ref q0, .int 0, .int 0, .int (nI n0)])), (q0, .inl (T 3, cm, .inl a0))] [(b0, .inr (11, [.ref q0, .int 0, .int 0, .int (nI n0)])), (q0, .inl (T 3, cm, .inl a0))] := Foc.rfl _ _
    refine jtr (S := SBU) (ws1 := fun u => ([(b0, .inr (11, [.ref u.1, .int 0, .int 0, .int (nI (n0 + (jL i).length))])), (u.1, .inl (T 3, u.2.1, .inl u.2.2))] : va_W)) (wc1 := fun u => ([(b0, .inr (11, [.ref u.1, .int 0, .int 0, .int (nI (n0 + (jL i).length))])), (u.1, .inl (T 3, u.2.1, .inl u.2.2))] : va_W)) (ru := fun u => b0) (va_runV (C := RJ4) (b := b0) (As := [.ref (x.1 i)]) (rest := []) ⟨hx, hb, hml, hown, hts⟩ (c_J4_append_15ec4 l D T x b0 q0 cm n0 i a0 hi hm hn hn0 hf _) (cwV 1 hts (gCJ gj72V_RJ4_23_J4_append_15ec4) rfl rfl rfl (by decide +kernel) ⟨Nat.le_of_ble_eq_true rfl, Nat.le_of_ble_eq_true rfl⟩) ⟨JP.blind _ _ _ _ _ _, va_recv (ci := 11) (q0 := 0) hK ((hF0).subP hP) rfl rfl, jpre (As := [.ref (b0), .ref (x.1 i)]) hF0 hX hK hP hD hS hA⟩ rfl rfl hl.1 rfl (lv_room (m := m) (pc := 2) (ls := ls) (rest := [.ref (x.1 i), .ref (b0)]) (st := []) (Nat.le_of_ble_eq_true rfl)) dJ4_append_cf1ce_2 ⟨by show _ ≤ 1; omega, by show _ ≤ 798; omega⟩) (fun u => Foc.rfl _ _) (hF0) hP hD hS hA (fun u H locs hr hP hD hS => ?_)
    obtain ⟨q9, m9, a9⟩ := u
    have hP : va_P D vwCl ([(b0, .inr (11, [.ref q9, .int 0, .int 0, .int (nI (n0 + (jL i).length))])), (q9, .inl (T 3, m9, .inl a9))]) H := hP
    have hD : va_D A ([(b0, .inr (11, [.ref q9, .int 0, .int 0, .int (nI (n0 + (jL i).length))])), (q9, .inl (T 3, m9, .inl a9))]) := hD
    exact hret _ _ _ _ _ _ (q9, m9, a9) dJ4_append_cf1ce_5 (hr) hP hD hS (by omega) (by omega)
  exact hgo _ _ hP hS

set_option maxHeartbeats 4000000 in
set_option maxRecDepth 100000 in
theorem c_J5_init_a7421 (l : Launch) (D : va_G) (T : Nat → ClassId) (x : JV) (b0 i : Nat) (hi : i < 8) (sz : Nat) : Met l yJ5_init_a7421 vtJ5_init_a7421 ({ frames := 7, cells := 2, slots := 898, locals := 169 } : Room) (va_Pc [.ref (b0), .ref (x.1 i)] (JP D T x ([(b0, .inr (11, [.null, .int 0, .int 0, .int 0]))]) sz)) (va_Qv (fun (u : SBU) => SBI (jL i) u) (fun u t => QS D T (va_A ([(b0, .inr (11, [.null, .int 0, .int 0, .int 0]))]) sz) ([(b0, .inr (11, [.ref u.1, .int 0, .int 0, .int (nI (jL i).length)])), (u.1, .inl (T 3, u.2.1, .inl u.2.2))] : va_W) t) (va_A ([(b0, .inr (11, [.null, .int 0, .int 0, .int 0]))]) sz)) 2 898 (va_A ([(b0, .inr (11, [.null, .int 0, .int 0, .int 0]))]) sz) := by
  refine metJv (wu := fun (u : SBU) => ([(b0, .inr (11, [.ref u.1, .int 0, .int 0, .int (nI (jL i).length)])), (u.1, .inl (T 3, u.2.1, .inl u.2.2))] : va_W)) (cc := cJ5_init_a7421) (maxL := 5) (by decide) rfl (Nat.le_of_ble_eq_true rfl) ?_
  intro p e s m args below meth c Q ls A hx hb hml hown hts hX hP hK hD hA hS hl hret
  have hown : s.vm.findClass RJ5 = some m.cls := hown
  have hl : lv_has ls 5 [(0, .ref (b0)), (1, .ref (x.1 i))] := hl
  have iRJ4 : ∀ w ∈ wsJ40, w ∈ vtJ5_init_a7421 := fun w hw => List.mem_cons_of_mem _ ((g_RJ4 w hw).1)
  have kmw_114 := hts (Cond.code objectInit ⟨#[0xb1]⟩ 1 none) (List.mem_cons_of_mem _ (gJ_of mw_114 rfl))
  have kmw_115 := hts (Cond.instanceMethod objectInit) (List.mem_cons_of_mem _ (gJ_of mw_115 rfl))
  have kmw_466 := hts (Cond.fieldLink RJ5 15 "java/lang/AbstractStringBuilder" "value" "[B") (List.mem_cons_of_mem _ (gJ_of mw_466 rfl))
  have kmw_467 := hts (Cond.fieldLink RJ5 22 "java/lang/AbstractStringBuilder" "coder" "B") (List.mem_cons_of_mem _ (gJ_of mw_467 rfl))
  have kmw_493 := hts (Cond.arrayClass .byte) (List.mem_cons_of_mem _ (gJ_of mw_493 rfl))
  have kmw_573 := hts (Cond.methodLink RJ5 3 objectInit) (List.mem_cons_of_mem _ (gJ_of mw_573 rfl))
  have kmw_574 := hts (Cond.constant RJ5 38 (2147483631)) (List.mem_cons_of_mem _ (gJ_of mw_574 rfl))
  have hXi := hX.1 i hi
  have hAL := AL_j hi
  have hln := (jL_ok i hi).1
  have hgo : ∀ (H : Heap) (locs : List Loc), va_P D vwCl ([(b0, .inr (11, [.null, .int 0, .int 0, .int 0]))]) H → va_S A s.heap H locs → W p l e ({ frames := 7, cells := 2, slots := 898, locals := 169 } : Room) s m args below meth c H locs (0) (0) Q (F0 m 0 ls []) := by
    intro H locs hP hS
    refine lv_aload_n hx hb dJ5_init_a7421_0 rfl (lv_at hl 0 rfl) ?_
    refine W.objInit hx hb hown kmw_573 kmw_115 kmw_114 rfl (by rw [hml]; exact hl.1) rfl dJ5_init_a7421_1 (Nat.le_of_ble_eq_true rfl) (Nat.le_of_ble_eq_true rfl) ?_
    show W p l e ({ frames := 7, cells := 2, slots := 898, locals := 169 } : Room) s m args below meth c H locs (0) (0) Q (F0 m 4 ls [])
    refine lv_aload_n hx hb dJ5_init_a7421_4 rfl (lv_at hl 1 rfl) ?_
    refine rdBV (As := []) (rest := []) (STF.bl (x.1 i) (x.2.1 i) ((jL i).length) ((jF (jL i))) nA) ⟨hx, hb, hml, hown, hts⟩ (c_J0_length_8abf5 l (x.1 i) (x.2.1 i) ((jL i).length) ((jF (jL i)))) (cwV 0 hts (gCJ gj72V_RJ5_32_J0_length_8abf5) rfl rfl rfl (by decide +kernel) ⟨Nat.le_of_ble_eq_true rfl, Nat.le_of_ble_eq_true rfl⟩) (fun U hU hv => hXi.at hS hU hv) (hXi.rc hS) rfl hl.1 rfl (Nat.le_of_ble_eq_true rfl) ⟨by show _ ≤ 2; omega, by show _ ≤ 898; omega⟩ dJ5_init_a7421_5 ?_
    refine lv_istore_n (lv' := [(2, .int (nI (jL i).length)), (0, .ref (b0)), (1, .ref (x.1 i))]) hx hb dJ5_init_a7421_8 rfl hl (by decide) rfl (fun ls hl => ?_)
    refine lv_iload_n hx hb dJ5_init_a7421_9 rfl (lv_at hl 0 rfl) ?_
    refine lv_ldc (v := 2147483631) hx hb hown kmw_574 dJ5_init_a7421_10 ?_
    refine lv_icmp_ge (tgt := 22) hx hb dJ5_init_a7421_12 (by decide) (fun h9 => absurd (show nI 2147483631 ≤ nI (jL i).length from h9) (fun z => by have := (nI_leI (by decide) (by omega)).mp z; omega)) (fun _ => ?_)
    refine lv_iload_n hx hb dJ5_init_a7421_15 rfl (lv_at hl 0 rfl) ?_
    refine lv_bipush (v := 16) hx hb dJ5_init_a7421_16 (by decide) ?_
    refine lv_iadd hx hb dJ5_init_a7421_18 ?_
    refine endI (r := nI (((jL i).length) + 16)) (nI_add _ _) ?_
    refine lv_goto (tgt := 24) hx hb dJ5_init_a7421_19 (by decide) ?_
    refine lv_istore_n (lv' := [(3, .int (nI (((jL i).length) + 16))), (2, .int (nI (jL i).length)), (0, .ref (b0)), (1, .ref (x.1 i))]) hx hb dJ5_init_a7421_24 rfl hl (by decide) rfl (fun ls hl => ?_)
    refine lv_aload_n hx hb dJ5_init_a7421_25 rfl (lv_at hl 3 rfl) ?_
    refine rdBV (As := []) (rest := []) (STF.bl (x.1 i) (x.2.1 i) ((jL i).length) ((jF (jL i))) nA) ⟨hx, hb, hml, hown, hts⟩ (c_J0_coder_7d493 l (x.1 i) (x.2.1 i) ((jL i).length) ((jF (jL i)))) (cwV 0 hts (gCJ gj72V_RJ5_40_J0_coder_7d493) rfl rfl rfl (by decide +kernel) ⟨Nat.le_of_ble_eq_true rfl, Nat.le_of_ble_eq_true rfl⟩) (fun U hU hv => hXi.at hS hU hv) (hXi.rc hS) rfl hl.1 rfl (Nat.le_of_ble_eq_true rfl) ⟨by show _ ≤ 2; omega, by show _ ≤ 898; omega⟩ dJ5_init_a7421_26 ?_
    refine lv_istore (lv' := [(4, .int (0)), (3, .int (nI (((jL i).length) + 16))), (2, .int (nI (jL i).length)), (0, .ref (b0)), (1, .ref (x.1 i))]) hx hb dJ5_init_a7421_29 hl (by decide) rfl (fun ls hl => ?_)
    refine lv_aload_n hx hb dJ5_init_a7421_31 rfl (lv_at hl 3 rfl) ?_
    refine lv_iload hx hb dJ5_init_a7421_32 (lv_at hl 0 rfl) ?_
    refine va_put (D := D) (ci := 11) (v := .int 0) (ty := .byte) (C := RJ4) (T := TJ4) (N := 4) hx hb hts iRJ4 tyJ4 tyJ4_ok nmJ4 hown hK hP hD hS 0 rfl rfl 1 (by decide) kmw_467 (fun _ h9 => h9) rfl (by decide +kernel) rfl rfl (Nat.le_of_ble_eq_true rfl) dJ5_init_a7421_34 (fun H locs hP hD hS => ?_)
    have hP : va_P D vwCl ([(b0, .inr (11, [.null, .int 0, .int 0, .int 0]))]) H := hP
    have hD : va_D A ([(b0, .inr (11, [.null, .int 0, .int 0, .int 0]))]) := hD
    refine lv_aload_n hx hb dJ5_init_a7421_37 rfl (lv_at hl 3 rfl) ?_
    refine lv_iload hx hb dJ5_init_a7421_38 (lv_at hl 0 rfl) ?_
    refine lv_if_ne (tgt := 49) hx hb dJ5_init_a7421_40 (by decide) (fun c40 => ?_) (fun c40 => ?_)
    ·
      exact absurd c40 (by decide)
    ·
      refine lv_iload_n hx hb dJ5_init_a7421_43 rfl (lv_at hl 1 rfl) ?_
      refine newB hx hb kmw_493 hK hP hD hS hA (n := nI (((jL i).length) + 16)) (N' := ((jL i).length) + 16) (nI_pos (by omega)) (nI_clamp (by omega)) (by omega) (by show _ ≤ 2; omega) (by show _ ≤ 898; omega) dJ5_init_a7421_44 (fun q44 H hP hD hS => ?_)
      have hP : va_P D vwCl ([(b0, .inr (11, [.null, .int 0, .int 0, .int 0])), (q44, .inl (T 3, (((jL i).length) + 16), .inl (fun _ => 0)))]) H := hP
      have hD : va_D A ([(b0, .inr (11, [.null, .int 0, .int 0, .int 0])), (q44, .inl (T 3, (((jL i).length) + 16), .inl (fun _ => 0)))]) := hD
      refine lv_goto (tgt := 53) hx hb dJ5_init_a7421_46 (by decide) ?_
      refine va_put (D := D) (ci := 11) (v := .ref q44) (ty := .array .byte) (C := RJ4) (T := TJ4) (N := 4) hx hb hts iRJ4 tyJ4 tyJ4_ok nmJ4 hown hK hP hD hS 0 rfl rfl 0 (by decide) kmw_466 (fun _ h9 => h9) rfl (by decide +kernel) rfl rfl (Nat.le_of_ble_eq_true rfl) dJ5_init_a7421_53 (fun H locs hP hD hS => ?_)
      have hP : va_P D vwCl ([(b0, .inr (11, [.ref q44, .int 0, .int 0, .int 0])), (q44, .inl (T 3, (((jL i).length) + 16), .inl (fun _ => 0)))]) H := hP
      have hD : va_D A ([(b0, .inr (11, [.ref q44, .int 0, .int 0, .int 0])), (q44, .inl (T 3, (((jL i).length) + 16), .inl (fun _ => 0)))]) := hD
      refine lv_aload_n hx hb dJ5_init_a7421_56 rfl (lv_at hl 3 rfl) ?_
      refine lv_aload_n hx hb dJ5_init_a7421_57 rfl (lv_at hl 4 rfl) ?_
      have hF0 : Foc [(b0, .inr (11, [.ref q44, .int 0, .int 0, .int 0])), (q44, .inl (T 3, (((jL i).length) + 16), .inl (fun _ => 0)))] [(b0, .inr (11, [.ref q44, .int 0, .int 0, .int 0])), (q44, .inl (T 3, (((jL i).length) + 16), .inl (fun _ => 0)))] [(b0, .inr (11, [.ref q44, .int 0, .int 0, .int 0])), (q44, .inl (T 3, (((jL i).length) + 16), .inl (fun _ => 0)))] [(b0, .inr (11, [.ref q44, .int 0, .int 0, .int 0])), (q44, .inl (T 3, (((jL i).length) + 16), .inl (fun _ => 0)))] := Foc.rfl _ _
      refine jtr (S := SBU) (ws1 := fun u => ([(b0, .inr (11, [.ref u.1, .int 0, .int 0, .int (nI (0 + (jL i).length))])), (u.1, .inl (T 3, u.2.1, .inl u.2.2))] : va_W)) (wc1 := fun u => ([(b0, .inr (11, [.ref u.1, .int 0, .int 0, .int (nI (0 + (jL i).length))])), (u.1, .inl (T 3, u.2.1, .inl u.2.2))] : va_W)) (ru := fun u => b0) (va_runU (C := RJ4) (b := b0) (As := [.ref (x.1 i)]) (rest := []) ⟨hx, hb, hml, hown, hts⟩ (c_J4_append_cf1ce l D T x b0 q44 ((jL i).length + 16) 0 i (fun _ => 0) hi (by omega) (by omega) (by omega) sb_fit0 _) (va_cwO 1 hts (gCJ gj72O_RJ5_43_J4_append_cf1ce) rfl rfl rfl (List.mem_cons_of_mem _ (gJ_of mw_441 rfl)) (by decide +kernel) ⟨Nat.le_of_ble_eq_true rfl, Nat.le_of_ble_eq_true rfl⟩) ⟨JP.blind _ _ _ _ _ _, va_recv (ci := 11) (q0 := 0) hK ((hF0).subP hP) rfl rfl, jpre (As := [.ref (b0), .ref (x.1 i)]) hF0 hX hK hP hD hS hA⟩ rfl rfl hl.1 rfl (lv_room (m := m) (pc := 58) (ls := ls) (rest := [.ref (x.1 i), .ref (b0)]) (st := []) (Nat.le_of_ble_eq_true rfl)) dJ5_init_a7421_58 ⟨by show _ ≤ 2; omega, by show _ ≤ 898; omega⟩) (fun u => Foc.rfl _ _) (hF0) hP hD hS hA (fun u H locs hr hP hD hS => ?_)
      obtain ⟨q9, m9, a9⟩ := u
      obtain ⟨hr1, hr2, hr3, -, hr5⟩ := hr
      replace hr1 : 0 + (jL i).length ≤ m9 := hr1
      replace hr2 : m9 ≤ 798 := hr2
      have hP : va_P D vwCl ([(b0, .inr (11, [.ref q9, .int 0, .int 0, .int (nI (0 + (jL i).length))])), (q9, .inl (T 3, m9, .inl a9))]) H := hP
      have hD : va_D A ([(b0, .inr (11, [.ref q9, .int 0, .int 0, .int (nI (0 + (jL i).length))])), (q9, .inl (T 3, m9, .inl a9))]) := hD
      refine lv_pop hx hb dJ5_init_a7421_61 rfl ?_
      rw [Nat.zero_add] at hP hD
      exact hret _ _ _ _ _ _ (q9, m9, a9) dJ5_init_a7421_62 (⟨by show (jL i).length ≤ m9; omega, hr2, fun j hj => by have h9 := hr5 j hj; rw [Nat.zero_add] at h9; exact h9, hr3⟩) hP hD hS (by omega) (by omega)
  exact hgo _ _ hP hS

set_option maxHeartbeats 4000000 in
set_option maxRecDepth 100000 in
theorem c_J4_init_a7421 (l : Launch) (D : va_G) (T : Nat → ClassId) (x : JV) (b0 i : Nat) (hi : i < 8) (sz : Nat) : Met l yJ4_init_a7421 vtJ4_init_a7421 ({ frames := 8, cells := 2, slots := 898, locals := 193 } : Room) (va_Pc [.ref (b0), .ref (x.1 i)] (JP D T x ([(b0, .inr (11, [.null, .int 0, .int 0, .int 0]))]) sz)) (va_Qv (fun (u : SBU) => SBI (jL i) u) (fun u t => QS D T (va_A ([(b0, .inr (11, [.null, .int 0, .int 0, .int 0]))]) sz) ([(b0, .inr (11, [.ref u.1, .int 0, .int 0, .int (nI (jL i).length)])), (u.1, .inl (T 3, u.2.1, .inl u.2.2))] : va_W) t) (va_A ([(b0, .inr (11, [.null, .int 0, .int 0, .int 0]))]) sz)) 2 898 (va_A ([(b0, .inr (11, [.null, .int 0, .int 0, .int 0]))]) sz) := by
  refine metJv (wu := fun (u : SBU) => ([(b0, .inr (11, [.ref u.1, .int 0, .int 0, .int (nI (jL i).length)])), (u.1, .inl (T 3, u.2.1, .inl u.2.2))] : va_W)) (cc := cJ4_init_a7421) (maxL := 2) (by decide) rfl (Nat.le_of_ble_eq_true rfl) ?_
  intro p e s m args below meth c Q ls A hx hb hml hown hts hX hP hK hD hA hS hl hret
  have hown : s.vm.findClass RJ4 = some m.cls := hown
  have hl : lv_has ls 2 [(0, .ref (b0)), (1, .ref (x.1 i))] := hl
  have kmw_471 := hts (Cond.initialized RJ5) (List.mem_cons_of_mem _ (gJ_of mw_471 rfl))
  have kmw_634 := hts (Cond.methodLink RJ4 7 yJ5_init_a7421) (List.mem_cons_of_mem _ (gJ_of mw_634 rfl))
  have kmw_635 := hts (Cond.instanceMethod yJ5_init_a7421) (List.mem_cons_of_mem _ (gJ_of mw_635 rfl))
  have hXi := hX.1 i hi
  have hAL := AL_j hi
  have hln := (jL_ok i hi).1
  have hgo : ∀ (H : Heap) (locs : List Loc), va_P D vwCl ([(b0, .inr (11, [.null, .int 0, .int 0, .int 0]))]) H → va_S A s.heap H locs → W p l e ({ frames := 8, cells := 2, slots := 898, locals := 193 } : Room) s m args below meth c H locs (0) (0) Q (F0 m 0 ls []) := by
    intro H locs hP hS
    refine lv_aload_n hx hb dJ4_init_a7421_0 rfl (lv_at hl 0 rfl) ?_
    refine lv_aload_n hx hb dJ4_init_a7421_1 rfl (lv_at hl 1 rfl) ?_
    have hF0 : Foc [(b0, .inr (11, [.null, .int 0, .int 0, .int 0]))] [(b0, .inr (11, [.null, .int 0, .int 0, .int 0]))] [(b0, .inr (11, [.null, .int 0, .int 0, .int 0]))] [(b0, .inr (11, [.null, .int 0, .int 0, .int 0]))] := Foc.rfl _ _
    refine jtv (S := SBU) (ws1 := fun u => ([(b0, .inr (11, [.ref u.1, .int 0, .int 0, .int (nI (jL i).length)])), (u.1, .inl (T 3, u.2.1, .inl u.2.2))] : va_W)) (wc1 := fun u => ([(b0, .inr (11, [.ref u.1, .int 0, .int 0, .int (nI (jL i).length)])), (u.1, .inl (T 3, u.2.1, .inl u.2.2))] : va_W)) (va_runI (b := b0) (As := [.ref (x.1 i)]) (rest := []) ⟨hx, hb, hml, hown, hts⟩ (c_J5_init_a7421 l D T x b0 i hi _) (cwI 1 hts (gCJ gw_vtJ5_init_a7421) rfl rfl rfl kmw_471 kmw_634 kmw_635 rfl (by decide +kernel) ⟨Nat.le_of_ble_eq_true rfl, Nat.le_of_ble_eq_true rfl⟩) ⟨JP.blind _ _ _ _ _ _, jpre (As := [.ref (b0), .ref (x.1 i)]) hF0 hX hK hP hD hS hA⟩ rfl rfl hl.1 rfl (lv_room (m := m) (pc := 2) (ls := ls) (rest := [.ref (x.1 i), .ref (b0)]) (st := []) (Nat.le_of_ble_eq_true rfl)) dJ4_init_a7421_2 ⟨by show _ ≤ 2; omega, by show _ ≤ 898; omega⟩) (fun u => Foc.rfl _ _) (hF0) hP hD hS hA (fun u H locs hr hP hD hS => ?_)
    obtain ⟨q9, m9, a9⟩ := u
    have hP : va_P D vwCl ([(b0, .inr (11, [.ref q9, .int 0, .int 0, .int (nI (jL i).length)])), (q9, .inl (T 3, m9, .inl a9))]) H := hP
    have hD : va_D A ([(b0, .inr (11, [.ref q9, .int 0, .int 0, .int (nI (jL i).length)])), (q9, .inl (T 3, m9, .inl a9))]) := hD
    exact hret _ _ _ _ _ _ (q9, m9, a9) dJ4_init_a7421_5 (hr) hP hD hS (by omega) (by omega)
  exact hgo _ _ hP hS
