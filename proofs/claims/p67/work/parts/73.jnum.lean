/-! StringBuilder: a letter, a number appended -/
def dgN (v : Nat) : Nat := if v < 10 then 1 else 2
def dgL (v : Nat) : List Nat := if v < 10 then [48 + v] else [48 + v / 10, 48 + v % 10]
theorem dgL_1 {v : Nat} (h : v < 10) : dgL v = [48 + v] := if_pos h
theorem dgL_2 {v : Nat} (h : ¬ v < 10) : dgL v = [48 + v / 10, 48 + v % 10] := if_neg h
theorem dgL_len (v : Nat) : (dgL v).length = dgN v := by unfold dgL dgN; split <;> rfl
theorem i2b128 {c : Nat} (hc : c < 128) : (nI c).toInt8.toInt32 = nI c := by
  have h : ∀ c, c < 128 → (nI c).toInt8.toInt32 = nI c := by decide
  exact h _ hc
theorem nar128 {c : Nat} (hc : c < 128) : vp_nar .byte (nI c) = nI c := by
  have h : ∀ c, c < 128 → vp_nar .byte (nI c) = nI c := by decide
  exact h _ hc

theorem mwj73_0 : Cond.methodLink RJ5 100 yJ5_ensureCapacityInternal_d00df ∈ lw_tbl := tb_t5 _ (List.mem_of_getElem? (i := 77) rfl)
theorem mwj73_1 : Cond.selects RJ4 ⟨RJ5, "isLatin1", "()Z"⟩ yJ5_isLatin1_aae02 ∈ lw_tbl := tb_t5 _ (List.mem_of_getElem? (i := 110) rfl)
theorem mwj73_2 : Cond.sameMethod RJ5 RJ5 "isLatin1" "()Z" ∈ lw_tbl := tb_t5 _ (List.mem_of_getElem? (i := 109) rfl)
theorem mwj73_3 : Cond.methodLink RJ5 83 ⟨RJ5, "isLatin1", "()Z"⟩ ∈ lw_tbl := tb_t5 _ (List.mem_of_getElem? (i := 107) rfl)
theorem mwj73_4 : Cond.sameMethod RJ5 RJ5 "append" "(C)Ljava/lang/AbstractStringBuilder;" ∈ lw_tbl := tb_t6 _ (List.mem_of_getElem? (i := 159) rfl)
theorem mwj73_5 : Cond.sameMethod RJ5 RJ5 "append" "(I)Ljava/lang/AbstractStringBuilder;" ∈ lw_tbl := tb_t6 _ (List.mem_of_getElem? (i := 158) rfl)
theorem gj73P_RJ5_100_J5_ensureCapacityInternal_d00df : GoodIn gJ (wsP RJ5 100 RJ4 yJ5_ensureCapacityInternal_d00df vtJ5_ensureCapacityInternal_d00df) := show GoodIn gJ ([Cond.methodLink RJ5 100 yJ5_ensureCapacityInternal_d00df, Cond.instanceMethod yJ5_ensureCapacityInternal_d00df, Cond.selects RJ4 yJ5_ensureCapacityInternal_d00df yJ5_ensureCapacityInternal_d00df, Cond.initialized RJ5] ++ vtJ5_ensureCapacityInternal_d00df) from goodIn_app (gconJ (gJ_of mwj73_0 rfl) rfl (gconJ (gJ_of mw_501 rfl) rfl (gconJ sel_yJ5_ensureCapacityInternal_d00df rfl (gconJ (gJ_of mw_471 rfl) rfl (gnilJ))))) gw_vtJ5_ensureCapacityInternal_d00df
theorem gj73U_RJ5_83_J5_isLatin1_aae02 : GoodIn gJ (va_wsU RJ5 83 RJ4 RJ5 ⟨RJ5, "isLatin1", "()Z"⟩ yJ5_isLatin1_aae02 vtJ5_isLatin1_aae02) := show GoodIn gJ ([Cond.methodLink RJ5 83 ⟨RJ5, "isLatin1", "()Z"⟩, Cond.sameMethod RJ5 RJ5 "isLatin1" "()Z", Cond.selects RJ4 ⟨RJ5, "isLatin1", "()Z"⟩ yJ5_isLatin1_aae02, Cond.instanceMethod yJ5_isLatin1_aae02, Cond.initialized RJ5] ++ vtJ5_isLatin1_aae02) from goodIn_app (gconJ (gJ_of mwj73_3 rfl) rfl (gconJ (gJ_of mwj73_2 rfl) rfl (gconJ (gJ_of mwj73_1 rfl) rfl (gconJ (gJ_of mw_505 rfl) rfl (gconJ (gJ_of mw_471 rfl) rfl (gnilJ)))))) gw_vtJ5_isLatin1_aae02
theorem gj73S_RJ5_191_J1_canEncode_fc78d : GoodIn gJ (va_wsS RJ5 191 yJ1_canEncode_fc78d vtJ1_canEncode_fc78d) := show GoodIn gJ ([Cond.methodLink RJ5 191 yJ1_canEncode_fc78d, Cond.static yJ1_canEncode_fc78d, Cond.initialized RJ1] ++ vtJ1_canEncode_fc78d) from goodIn_app (gconJ (gJ_of mw_580 rfl) rfl (gconJ (gJ_of mw_581 rfl) rfl (gconJ (gJ_of mw_194 rfl) rfl (gnilJ)))) gw_vtJ1_canEncode_fc78d
theorem gj73SU_RJ4_50_J5_append_3fe6f : GoodIn gJ (va_wsSU RJ4 50 yJ5_append_3fe6f vtJ5_append_3fe6f) := show GoodIn gJ ([Cond.methodLink RJ4 50 yJ5_append_3fe6f, Cond.sameMethod RJ5 RJ5 "append" "(C)Ljava/lang/AbstractStringBuilder;", Cond.superclass RJ4 RJ5, Cond.instanceMethod yJ5_append_3fe6f, Cond.initialized RJ5] ++ vtJ5_append_3fe6f) from goodIn_app (gconJ (gJ_of mw_636 rfl) rfl (gconJ (gJ_of mwj73_4 rfl) rfl (gconJ (gJ_of mw_567 rfl) rfl (gconJ (gJ_of mw_638 rfl) rfl (gconJ (gJ_of mw_471 rfl) rfl (gnilJ)))))) gw_vtJ5_append_3fe6f
theorem gj73S_RJ5_245_J6_stringSize_0f7a4 : GoodIn gJ (va_wsS RJ5 245 yJ6_stringSize_0f7a4 vtJ6_stringSize_0f7a4) := show GoodIn gJ ([Cond.methodLink RJ5 245 yJ6_stringSize_0f7a4, Cond.static yJ6_stringSize_0f7a4, Cond.initialized RJ6] ++ vtJ6_stringSize_0f7a4) from goodIn_app (gconJ (gJ_of mw_590 rfl) rfl (gconJ (gJ_of mw_591 rfl) rfl (gconJ (gJ_of mw_592 rfl) rfl (gnilJ)))) gw_vtJ6_stringSize_0f7a4
theorem gj73S_RJ5_248_J6_getChars_ba4f3 : GoodIn gJ (va_wsS RJ5 248 yJ6_getChars_ba4f3 vtJ6_getChars_ba4f3) := show GoodIn gJ ([Cond.methodLink RJ5 248 yJ6_getChars_ba4f3, Cond.static yJ6_getChars_ba4f3, Cond.initialized RJ6] ++ vtJ6_getChars_ba4f3) from goodIn_app (gconJ (gJ_of mw_593 rfl) rfl (gconJ (gJ_of mw_594 rfl) rfl (gconJ (gJ_of mw_592 rfl) rfl (gnilJ)))) gw_vtJ6_getChars_ba4f3
theorem gj73SU_RJ4_53_J5_append_c97b9 : GoodIn gJ (va_wsSU RJ4 53 yJ5_append_c97b9 vtJ5_append_c97b9) := show GoodIn gJ ([Cond.methodLink RJ4 53 yJ5_append_c97b9, Cond.sameMethod RJ5 RJ5 "append" "(I)Ljava/lang/AbstractStringBuilder;", Cond.superclass RJ4 RJ5, Cond.instanceMethod yJ5_append_c97b9, Cond.initialized RJ5] ++ vtJ5_append_c97b9) from goodIn_app (gconJ (gJ_of mw_639 rfl) rfl (gconJ (gJ_of mwj73_5 rfl) rfl (gconJ (gJ_of mw_567 rfl) rfl (gconJ (gJ_of mw_641 rfl) rfl (gconJ (gJ_of mw_471 rfl) rfl (gnilJ)))))) gw_vtJ5_append_c97b9
set_option maxHeartbeats 4000000 in
set_option maxRecDepth 100000 in
theorem c_J1_canEncode_fc78d (l : Launch) (ch : Nat) (hch : ch < 128) : Met l yJ1_canEncode_fc78d vtJ1_canEncode_fc78d ({ frames := 0, cells := 0, slots := 0, locals := 0 } : Room) (va_Pc [.int (nI ch)] (fun _ => True)) (QcRead (1)) 0 0 (fun _ => False) := by
  refine metB (cc := cJ1_canEncode_fc78d) (maxL := 1) (ty := .boolean) (by decide) rfl (rfl) (Nat.le_of_ble_eq_true rfl) ?_
  intro p e s m args below meth c Q ls hx hb hml hown hts hB hl hret
  have hown : s.vm.findClass RJ1 = some m.cls := hown
  have hl : lv_has ls 1 [(0, .int (nI ch))] := hl
  refine lv_iload_n hx hb dJ1_canEncode_fc78d_0 rfl (lv_at hl 0 rfl) ?_
  refine lv_sipush (v := 255) hx hb dJ1_canEncode_fc78d_1 (by decide) ?_
  refine lv_icmp_gt (tgt := 11) hx hb dJ1_canEncode_fc78d_4 (by decide) (fun h9 => absurd (show nI 255 < nI ch from h9) (nI_nlt (by omega) (by decide))) (fun _ => ?_)
  refine lv_iconst (v := 1) hx hb dJ1_canEncode_fc78d_7 (by decide) ?_
  refine lv_goto (tgt := 12) hx hb dJ1_canEncode_fc78d_8 (by decide) ?_
  exact hret ls _ dJ1_canEncode_fc78d_12

set_option maxHeartbeats 4000000 in
set_option maxRecDepth 100000 in
theorem c_J5_append_3fe6f (l : Launch) (D : va_G) (T : Nat → ClassId) (x : JV) (b0 q0 cm n0 ch : Nat) (a0 : Nat → Int32) (hch : ch < 128) (hm : cm ≤ 798) (hn : n0 ≤ cm) (hn0 : n0 + 1 ≤ 398) (hf : sb_Fit a0) (sz : Nat) : Met l yJ5_append_3fe6f vtJ5_append_3fe6f ({ frames := 4, cells := 1, slots := 798, locals := 104 } : Room) (va_Pc [.ref (b0), .int (nI ch)] (JP D T x ([(b0, .inr (11, [.ref q0, .int 0, .int 0, .int (nI n0)])), (q0, .inl (T 3, cm, .inl a0))]) sz)) (va_Qr (fun (u : SBU) => (n0 + 1 ≤ u.2.1 ∧ u.2.1 ≤ 798 ∧ sb_Fit u.2.2 ∧ (∀ j, j < n0 → u.2.2 j = a0 j) ∧ u.2.2 n0 = nI ch)) (fun u b9 t => b9 = (fun (u : SBU) => b0) u ∧ QS D T (va_A ([(b0, .inr (11, [.ref q0, .int 0, .int 0, .int (nI n0)])), (q0, .inl (T 3, cm, .inl a0))]) sz) ([(b0, .inr (11, [.ref u.1, .int 0, .int 0, .int (nI (n0 + 1))])), (u.1, .inl (T 3, u.2.1, .inl u.2.2))] : va_W) t) (va_A ([(b0, .inr (11, [.ref q0, .int 0, .int 0, .int (nI n0)])), (q0, .inl (T 3, cm, .inl a0))]) sz)) 1 798 (va_A ([(b0, .inr (11, [.ref q0, .int 0, .int 0, .int (nI n0)])), (q0, .inl (T 3, cm, .inl a0))]) sz) := by
  refine metJr (ty := (.object "java/lang/AbstractStringBuilder")) (wu := fun (u : SBU) => ([(b0, .inr (11, [.ref u.1, .int 0, .int 0, .int (nI (n0 + 1))])), (u.1, .inl (T 3, u.2.1, .inl u.2.2))] : va_W)) (ru := fun (u : SBU) => b0) (cc := cJ5_append_3fe6f) (maxL := 2) (by decide) rfl (Or.inl ⟨_, rfl⟩) (Nat.le_of_ble_eq_true rfl) ?_
  intro p e s m args below meth c Q ls A hx hb hml hown hts hX hP hK hD hA hS hl hret
  have hown : s.vm.findClass RJ5 = some m.cls := hown
  have hl : lv_has ls 2 [(0, .ref (b0)), (1, .int (nI ch))] := hl
  have iRJ4 : ∀ w ∈ wsJ40, w ∈ vtJ5_append_3fe6f := fun w hw => List.mem_cons_of_mem _ ((g_RJ4 w hw).1)
  have kmw_466 := hts (Cond.fieldLink RJ5 15 "java/lang/AbstractStringBuilder" "value" "[B") (List.mem_cons_of_mem _ (gJ_of mw_466 rfl))
  have kmw_498 := hts (Cond.fieldLink RJ5 79 "java/lang/AbstractStringBuilder" "count" "I") (List.mem_cons_of_mem _ (gJ_of mw_498 rfl))
  have hgo : ∀ (H : Heap) (locs : List Loc), va_P D vwCl ([(b0, .inr (11, [.ref q0, .int 0, .int 0, .int (nI n0)])), (q0, .inl (T 3, cm, .inl a0))]) H → va_S A s.heap H locs → W p l e ({ frames := 4, cells := 1, slots := 798, locals := 104 } : Room) s m args below meth c H locs (0) (0) Q (F0 m 0 ls []) := by
    intro H locs hP hS
    refine lv_aload_n hx hb dJ5_append_3fe6f_0 rfl (lv_at hl 0 rfl) ?_
    refine lv_aload_n hx hb dJ5_append_3fe6f_1 rfl (lv_at hl 0 rfl) ?_
    refine va_get (D := D) (ci := 11) (v := .int (nI n0)) (C := RJ4) (T := TJ4) (N := 4) hx hb hts iRJ4 hown hK hP 0 rfl rfl 3 (by decide) kmw_498 (fun _ h9 => h9) rfl dJ5_append_3fe6f_2 ?_
    refine lv_iconst (v := 1) hx hb dJ5_append_3fe6f_5 (by decide) ?_
    refine lv_iadd hx hb dJ5_append_3fe6f_6 ?_
    refine endI (r := nI (n0 + 1)) (nI_add _ _) ?_
    have hF0 : Foc [(b0, .inr (11, [.ref q0, .int 0, .int 0, .int (nI n0)])), (q0, .inl (T 3, cm, .inl a0))] [(b0, .inr (11, [.ref q0, .int 0, .int 0, .int (nI n0)])), (q0, .inl (T 3, cm, .inl a0))] [(b0, .inr (11, [.ref q0, .int 0, .int 0, .int (nI n0)])), (q0, .inl (T 3, cm, .inl a0))] [(b0, .inr (11, [.ref q0, .int 0, .int 0, .int (nI n0)])), (q0, .inl (T 3, cm, .inl a0))] := Foc.rfl _ _
    refine jtv (S := SBU) (ws1 := fun u => ([(b0, .inr (11, [.ref u.1, .int 0, .int 0, .int (nI (n0))])), (u.1, .inl (T 3, u.2.1, .inl u.2.2))] : va_W)) (wc1 := fun u => ([(b0, .inr (11, [.ref u.1, .int 0, .int 0, .int (nI (n0))])), (u.1, .inl (T 3, u.2.1, .inl u.2.2))] : va_W)) (va_runV (C := RJ4) (b := b0) (As := [.int (nI (n0 + 1))]) (rest := []) ⟨hx, hb, hml, hown, hts⟩ (c_J5_ensureCapacityInternal_d00df l D T x b0 q0 cm (n0 + 1) n0 a0 hm hn0 hf _) (cwP 1 hts (gCJ gj73P_RJ5_100_J5_ensureCapacityInternal_d00df) rfl rfl rfl (by decide +kernel) ⟨Nat.le_of_ble_eq_true rfl, Nat.le_of_ble_eq_true rfl⟩) ⟨JP.blind _ _ _ _ _ _, va_recv (ci := 11) (q0 := 0) hK ((hF0).subP hP) rfl rfl, jpre (As := [.ref (b0), .int (nI (n0 + 1))]) hF0 hX hK hP hD hS hA⟩ rfl rfl hl.1 rfl (lv_room (m := m) (pc := 7) (ls := ls) (rest := [.int (nI (n0 + 1)), .ref (b0)]) (st := []) (Nat.le_of_ble_eq_true rfl)) dJ5_append_3fe6f_7 ⟨by show _ ≤ 1; omega, by show _ ≤ 798; omega⟩) (fun u => Foc.rfl _ _) (hF0) hP hD hS hA (fun u H locs hr hP hD hS => ?_)
    obtain ⟨q9, m9, a9⟩ := u
    obtain ⟨hm1, hm2, hm3, hf9, hk9⟩ := hr
    replace hm1 : n0 + 1 ≤ m9 := hm1
    replace hm3 : m9 ≤ 798 := hm3
    have hP : va_P D vwCl ([(b0, .inr (11, [.ref q9, .int 0, .int 0, .int (nI n0)])), (q9, .inl (T 3, m9, .inl a9))]) H := hP
    have hD : va_D A ([(b0, .inr (11, [.ref q9, .int 0, .int 0, .int (nI n0)])), (q9, .inl (T 3, m9, .inl a9))]) := hD
    refine lv_aload_n hx hb dJ5_append_3fe6f_10 rfl (lv_at hl 0 rfl) ?_
    have hF0 : Foc [(b0, .inr (11, [.ref q9, .int 0, .int 0, .int (nI n0)])), (q9, .inl (T 3, m9, .inl a9))] [(b0, .inr (11, [.ref q9, .int 0, .int 0, .int (nI n0)])), (q9, .inl (T 3, m9, .inl a9))] [(b0, .inr (11, [.ref q9, .int 0, .int 0, .int (nI n0)])), (q9, .inl (T 3, m9, .inl a9))] [(b0, .inr (11, [.ref q9, .int 0, .int 0, .int (nI n0)])), (q9, .inl (T 3, m9, .inl a9))] := Foc.rfl _ _
    refine jti (S := Unit) (ws1 := fun u => ([(b0, .inr (11, [.ref q9, .int 0, .int 0, .int (nI n0)])), (q9, .inl (T 3, m9, .inl a9))] : va_W)) (wc1 := fun u => ([(b0, .inr (11, [.ref q9, .int 0, .int 0, .int (nI n0)])), (q9, .inl (T 3, m9, .inl a9))] : va_W)) (va_runU (C := RJ4) (b := b0) (As := []) (rest := []) ⟨hx, hb, hml, hown, hts⟩ (c_J5_isLatin1_aae02 l D T x b0 q9 m9 n0 a9 _) (va_cwU 0 hts (gCJ gj73U_RJ5_83_J5_isLatin1_aae02) rfl rfl rfl rfl (by decide +kernel) ⟨Nat.le_of_ble_eq_true rfl, Nat.le_of_ble_eq_true rfl⟩) ⟨JP.blind _ _ _ _ _ _, va_recv (ci := 11) (q0 := 0) hK ((hF0).subP hP) rfl rfl, jpre (As := [.ref (b0)]) hF0 hX hK hP hD hS hA⟩ rfl rfl hl.1 rfl (lv_room (m := m) (pc := 11) (ls := ls) (rest := [.ref (b0)]) (st := []) (Nat.le_of_ble_eq_true rfl)) dJ5_append_3fe6f_11 ⟨by show _ ≤ 1; omega, by show _ ≤ 798; omega⟩) (fun u => Foc.rfl _ _) (hF0) hP hD hS hA (fun r9 u H locs hr hP hD hS => ?_)
    subst hr
    have hP : va_P D vwCl ([(b0, .inr (11, [.ref q9, .int 0, .int 0, .int (nI n0)])), (q9, .inl (T 3, m9, .inl a9))]) H := hP
    have hD : va_D A ([(b0, .inr (11, [.ref q9, .int 0, .int 0, .int (nI n0)])), (q9, .inl (T 3, m9, .inl a9))]) := hD
    refine lv_if_eq (tgt := 45) hx hb dJ5_append_3fe6f_14 (by decide) (fun c14 => ?_) (fun c14 => ?_)
    ·
      exact absurd c14 (by decide)
    ·
      refine lv_iload_n hx hb dJ5_append_3fe6f_17 rfl (lv_at hl 1 rfl) ?_
      refine rdBS (As := [.int (nI ch)]) (rest := []) (B := fun _ => True) (fun _ _ _ _ _ => trivial) ⟨hx, hb, hml, hown, hts⟩ (c_J1_canEncode_fc78d l ch hch) (va_cwS 1 hts (gCJ gj73S_RJ5_191_J1_canEncode_fc78d) rfl rfl rfl (by decide +kernel) ⟨Nat.le_of_ble_eq_true rfl, Nat.le_of_ble_eq_true rfl⟩) (fun _ _ _ => trivial) rfl hl.1 rfl (Nat.le_of_ble_eq_true rfl) ⟨by show _ ≤ 1; omega, by show _ ≤ 798; omega⟩ dJ5_append_3fe6f_18 ?_
      refine lv_if_eq (tgt := 45) hx hb dJ5_append_3fe6f_21 (by decide) (fun c21 => ?_) (fun c21 => ?_)
      ·
        exact absurd c21 (by decide)
      ·
        refine lv_aload_n hx hb dJ5_append_3fe6f_24 rfl (lv_at hl 0 rfl) ?_
        refine va_get (D := D) (ci := 11) (v := .ref q9) (C := RJ4) (T := TJ4) (N := 4) hx hb hts iRJ4 hown hK hP 0 rfl rfl 0 (by decide) kmw_466 (fun _ h9 => h9) rfl dJ5_append_3fe6f_25 ?_
        refine lv_aload_n hx hb dJ5_append_3fe6f_28 rfl (lv_at hl 0 rfl) ?_
        refine lv_dup hx hb dJ5_append_3fe6f_29 rfl ?_
        refine va_get (D := D) (ci := 11) (v := .int (nI n0)) (C := RJ4) (T := TJ4) (N := 4) hx hb hts iRJ4 hown hK hP 0 rfl rfl 3 (by decide) kmw_498 (fun _ h9 => h9) rfl dJ5_append_3fe6f_30 ?_
        refine lv_dup_x1 hx hb dJ5_append_3fe6f_33 rfl rfl ?_
        refine lv_iconst (v := 1) hx hb dJ5_append_3fe6f_34 (by decide) ?_
        refine lv_iadd hx hb dJ5_append_3fe6f_35 ?_
        refine endI (r := nI (n0 + 1)) (nI_add _ _) ?_
        refine va_put (D := D) (ci := 11) (v := .int (nI (n0 + 1))) (ty := .int) (C := RJ4) (T := TJ4) (N := 4) hx hb hts iRJ4 tyJ4 tyJ4_ok nmJ4 hown hK hP hD hS 0 rfl rfl 3 (by decide) kmw_498 (fun _ h9 => h9) rfl (by decide +kernel) rfl rfl (Nat.le_of_ble_eq_true rfl) dJ5_append_3fe6f_36 (fun H locs hP hD hS => ?_)
        have hP : va_P D vwCl ([(b0, .inr (11, [.ref q9, .int 0, .int 0, .int (nI (n0 + 1))])), (q9, .inl (T 3, m9, .inl a9))]) H := hP
        have hD : va_D A ([(b0, .inr (11, [.ref q9, .int 0, .int 0, .int (nI (n0 + 1))])), (q9, .inl (T 3, m9, .inl a9))]) := hD
        refine lv_iload_n hx hb dJ5_append_3fe6f_39 rfl (lv_at hl 1 rfl) ?_
        refine lv_i2b (v := nI ch) hx hb dJ5_append_3fe6f_40 (i2b128 hch) ?_
        refine va_bast hx hb hK hP hD hS 1 3 rfl rfl (vp_in_nI (by omega) (by omega)) dJ5_append_3fe6f_41 (fun H locs hP hD hS => ?_)
        rw [nI_clamp (n := n0) (by omega), nar128 (c := ch) (by omega)] at hP hD
        have hP : va_P D vwCl ([(b0, .inr (11, [.ref q9, .int 0, .int 0, .int (nI (n0 + 1))])), (q9, .inl (T 3, m9, .inl (upd a9 n0 (nI ch))))]) H := hP
        have hD : va_D A ([(b0, .inr (11, [.ref q9, .int 0, .int 0, .int (nI (n0 + 1))])), (q9, .inl (T 3, m9, .inl (upd a9 n0 (nI ch))))]) := hD
        refine lv_goto (tgt := 75) hx hb dJ5_append_3fe6f_42 (by decide) ?_
        refine lv_aload_n hx hb dJ5_append_3fe6f_75 rfl (lv_at hl 0 rfl) ?_
        exact hret _ _ _ _ _ _ (q9, m9, upd a9 n0 (nI ch)) dJ5_append_3fe6f_76 (⟨hm1, hm3, sb_fitU hf9 (fit128 hch), fun j hj => (pk_un (by omega)).trans (hk9 j (by omega)), pk_us⟩) hP hD hS (by omega) (by omega)
  exact hgo _ _ hP hS

set_option maxHeartbeats 4000000 in
set_option maxRecDepth 100000 in
theorem c_J4_append_cf468 (l : Launch) (D : va_G) (T : Nat → ClassId) (x : JV) (b0 q0 cm n0 ch : Nat) (a0 : Nat → Int32) (hch : ch < 128) (hm : cm ≤ 798) (hn : n0 ≤ cm) (hn0 : n0 + 1 ≤ 398) (hf : sb_Fit a0) (sz : Nat) : Met l yJ4_append_cf468 vtJ4_append_cf468 ({ frames := 5, cells := 1, slots := 798, locals := 125 } : Room) (va_Pc [.ref (b0), .int (nI ch)] (JP D T x ([(b0, .inr (11, [.ref q0, .int 0, .int 0, .int (nI n0)])), (q0, .inl (T 3, cm, .inl a0))]) sz)) (va_Qr (fun (u : SBU) => (n0 + 1 ≤ u.2.1 ∧ u.2.1 ≤ 798 ∧ sb_Fit u.2.2 ∧ (∀ j, j < n0 → u.2.2 j = a0 j) ∧ u.2.2 n0 = nI ch)) (fun u b9 t => b9 = (fun (u : SBU) => b0) u ∧ QS D T (va_A ([(b0, .inr (11, [.ref q0, .int 0, .int 0, .int (nI n0)])), (q0, .inl (T 3, cm, .inl a0))]) sz) ([(b0, .inr (11, [.ref u.1, .int 0, .int 0, .int (nI (n0 + 1))])), (u.1, .inl (T 3, u.2.1, .inl u.2.2))] : va_W) t) (va_A ([(b0, .inr (11, [.ref q0, .int 0, .int 0, .int (nI n0)])), (q0, .inl (T 3, cm, .inl a0))]) sz)) 1 798 (va_A ([(b0, .inr (11, [.ref q0, .int 0, .int 0, .int (nI n0)])), (q0, .inl (T 3, cm, .inl a0))]) sz) := by
  refine metJr (ty := (.object "java/lang/StringBuilder")) (wu := fun (u : SBU) => ([(b0, .inr (11, [.ref u.1, .int 0, .int 0, .int (nI (n0 + 1))])), (u.1, .inl (T 3, u.2.1, .inl u.2.2))] : va_W)) (ru := fun (u : SBU) => b0) (cc := cJ4_append_cf468) (maxL := 2) (by decide) rfl (Or.inl ⟨_, rfl⟩) (Nat.le_of_ble_eq_true rfl) ?_
  intro p e s m args below meth c Q ls A hx hb hml hown hts hX hP hK hD hA hS hl hret
  have hown : s.vm.findClass RJ4 = some m.cls := hown
  have hl : lv_has ls 2 [(0, .ref (b0)), (1, .int (nI ch))] := hl
  have hgo : ∀ (H : Heap) (locs : List Loc), va_P D vwCl ([(b0, .inr (11, [.ref q0, .int 0, .int 0, .int (nI n0)])), (q0, .inl (T 3, cm, .inl a0))]) H → va_S A s.heap H locs → W p l e ({ frames := 5, cells := 1, slots := 798, locals := 125 } : Room) s m args below meth c H locs (0) (0) Q (F0 m 0 ls []) := by
    intro H locs hP hS
    refine lv_aload_n hx hb dJ4_append_cf468_0 rfl (lv_at hl 0 rfl) ?_
    refine lv_iload_n hx hb dJ4_append_cf468_1 rfl (lv_at hl 1 rfl) ?_
    have hF0 : Foc [(b0, .inr (11, [.ref q0, .int 0, .int 0, .int (nI n0)])), (q0, .inl (T 3, cm, .inl a0))] [(b0, .inr (11, [.ref q0, .int 0, .int 0, .int (nI n0)])), (q0, .inl (T 3, cm, .inl a0))] [(b0, .inr (11, [.ref q0, .int 0, .int 0, .int (nI n0)])), (q0, .inl (T 3, cm, .inl a0))] [(b0, .inr (11, [.ref q0, .int 0, .int 0, .int (nI n0)])), (q0, .inl (T 3, cm, .inl a0))] := Foc.rfl _ _
    refine jtr (S := SBU) (ws1 := fun u => ([(b0, .inr (11, [.ref u.1, .int 0, .int 0, .int (nI (n0 + 1))])), (u.1, .inl (T 3, u.2.1, .inl u.2.2))] : va_W)) (wc1 := fun u => ([(b0, .inr (11, [.ref u.1, .int 0, .int 0, .int (nI (n0 + 1))])), (u.1, .inl (T 3, u.2.1, .inl u.2.2))] : va_W)) (ru := fun u => b0) (va_runSU (C := RJ4) (b := b0) (As := [.int (nI ch)]) (rest := []) (hK.1 11 _ rfl).2 ⟨hx, hb, hml, hown, hts⟩ (c_J5_append_3fe6f l D T x b0 q0 cm n0 ch a0 hch hm hn hn0 hf _) (va_cwSU 1 hts (gCJ gj73SU_RJ4_50_J5_append_3fe6f) rfl rfl rfl (by decide +kernel) ⟨Nat.le_of_ble_eq_true rfl, Nat.le_of_ble_eq_true rfl⟩) ⟨JP.blind _ _ _ _ _ _, va_recv (ci := 11) (q0 := 0) hK ((hF0).subP hP) rfl rfl, jpre (As := [.ref (b0), .int (nI ch)]) hF0 hX hK hP hD hS hA⟩ rfl rfl hl.1 rfl (lv_room (m := m) (pc := 2) (ls := ls) (rest := [.int (nI ch), .ref (b0)]) (st := []) (Nat.le_of_ble_eq_true rfl)) dJ4_append_cf468_2 ⟨by show _ ≤ 1; omega, by show _ ≤ 798; omega⟩) (fun u => Foc.rfl _ _) (hF0) hP hD hS hA (fun u H locs hr hP hD hS => ?_)
    obtain ⟨q9, m9, a9⟩ := u
    have hP : va_P D vwCl ([(b0, .inr (11, [.ref q9, .int 0, .int 0, .int (nI (n0 + 1))])), (q9, .inl (T 3, m9, .inl a9))]) H := hP
    have hD : va_D A ([(b0, .inr (11, [.ref q9, .int 0, .int 0, .int (nI (n0 + 1))])), (q9, .inl (T 3, m9, .inl a9))]) := hD
    refine lv_pop hx hb dJ4_append_cf468_5 rfl ?_
    refine lv_aload_n hx hb dJ4_append_cf468_6 rfl (lv_at hl 0 rfl) ?_
    exact hret _ _ _ _ _ _ (q9, m9, a9) dJ4_append_cf468_7 (hr) hP hD hS (by omega) (by omega)
  exact hgo _ _ hP hS

set_option maxHeartbeats 4000000 in
set_option maxRecDepth 100000 in
theorem c_J6_stringSize_0f7a4 (l : Launch) (dv : Nat) (hdv : dv ≤ 99) : Met l yJ6_stringSize_0f7a4 vtJ6_stringSize_0f7a4 ({ frames := 0, cells := 0, slots := 0, locals := 0 } : Room) (va_Pc [.int (nI dv)] (fun _ => True)) (QcRead (nI (dgN dv))) 0 0 (fun _ => False) := by
  refine metB (cc := cJ6_stringSize_0f7a4) (maxL := 4) (ty := .int) (by decide) rfl (rfl) (Nat.le_of_ble_eq_true rfl) ?_
  intro p e s m args below meth c Q ls hx hb hml hown hts hB hl hret
  have hown : s.vm.findClass RJ6 = some m.cls := hown
  have hl : lv_has ls 4 [(0, .int (nI dv))] := hl
  refine lv_iconst (v := 1) hx hb dJ6_stringSize_0f7a4_0 (by decide) ?_
  refine lv_istore_n (lv' := [(1, .int (1)), (0, .int (nI dv))]) hx hb dJ6_stringSize_0f7a4_1 rfl hl (by decide) rfl (fun ls hl => ?_)
  refine lv_iload_n hx hb dJ6_stringSize_0f7a4_2 rfl (lv_at hl 1 rfl) ?_
  refine lv_if_lt (tgt := 11) hx hb dJ6_stringSize_0f7a4_3 (by decide) (fun h9 => absurd h9 (nI_pos (by omega))) (fun _ => ?_)
  refine lv_iconst (v := 0) hx hb dJ6_stringSize_0f7a4_6 (by decide) ?_
  refine lv_istore_n (lv' := [(1, .int (0)), (0, .int (nI dv))]) hx hb dJ6_stringSize_0f7a4_7 rfl hl (by decide) rfl (fun ls hl => ?_)
  refine lv_iload_n hx hb dJ6_stringSize_0f7a4_8 rfl (lv_at hl 1 rfl) ?_
  refine lv_ineg hx hb dJ6_stringSize_0f7a4_9 ?_
  refine lv_istore_n (lv' := [(0, .int (-(nI dv))), (1, .int (0))]) hx hb dJ6_stringSize_0f7a4_10 rfl hl (by decide) rfl (fun ls hl => ?_)
  refine lv_bipush (v := -10) hx hb dJ6_stringSize_0f7a4_11 (by decide) ?_
  refine lv_istore_n (lv' := [(2, .int (-10)), (0, .int (-(nI dv))), (1, .int (0))]) hx hb dJ6_stringSize_0f7a4_13 rfl hl (by decide) rfl (fun ls hl => ?_)
  refine lv_iconst (v := 1) hx hb dJ6_stringSize_0f7a4_14 (by decide) ?_
  refine lv_istore_n (lv' := [(3, .int (1)), (2, .int (-10)), (0, .int (-(nI dv))), (1, .int (0))]) hx hb dJ6_stringSize_0f7a4_15 rfl hl (by decide) rfl (fun ls hl => ?_)
  refine lv_iload_n hx hb dJ6_stringSize_0f7a4_16 rfl (lv_at hl 0 rfl) ?_
  refine lv_bipush (v := 10) hx hb dJ6_stringSize_0f7a4_17 (by decide) ?_
  refine lv_icmp_ge (tgt := 42) hx hb dJ6_stringSize_0f7a4_19 (by decide) (fun h9 => absurd h9 (by decide)) (fun _ => ?_)
  refine lv_iload_n hx hb dJ6_stringSize_0f7a4_22 rfl (lv_at hl 2 rfl) ?_
  refine lv_iload_n hx hb dJ6_stringSize_0f7a4_23 rfl (lv_at hl 1 rfl) ?_
  by_cases hv10 : dv < 10
  ·
    refine lv_icmp_le (tgt := 31) hx hb dJ6_stringSize_0f7a4_24 (by decide) (fun h9 => absurd ((sb_nle (by omega) (by decide)).mp (show -nI dv ≤ -nI 10 from h9)) (by omega)) (fun _ => ?_)
    refine lv_iload_n hx hb dJ6_stringSize_0f7a4_27 rfl (lv_at hl 0 rfl) ?_
    refine lv_iload_n hx hb dJ6_stringSize_0f7a4_28 rfl (lv_at hl 3 rfl) ?_
    refine lv_iadd hx hb dJ6_stringSize_0f7a4_29 ?_
    refine endI (r := 1) (by decide) ?_
    refine endI (r := nI (dgN dv)) (congrArg nI (show dgN dv = 1 from if_pos hv10)).symm ?_
    exact hret ls _ dJ6_stringSize_0f7a4_30
  ·
    refine lv_icmp_le (tgt := 31) hx hb dJ6_stringSize_0f7a4_24 (by decide) (fun _ => ?_) (fun h9 => absurd (show -nI dv ≤ -nI 10 from (sb_nle (by omega) (by decide)).mpr (by omega)) h9)
    refine lv_bipush (v := 10) hx hb dJ6_stringSize_0f7a4_31 (by decide) ?_
    refine lv_iload_n hx hb dJ6_stringSize_0f7a4_33 rfl (lv_at hl 1 rfl) ?_
    refine lv_imul hx hb dJ6_stringSize_0f7a4_34 ?_
    refine endI (r := -100) (by decide) ?_
    refine lv_istore_n (lv' := [(2, .int (-100)), (3, .int (1)), (0, .int (-(nI dv))), (1, .int (0))]) hx hb dJ6_stringSize_0f7a4_35 rfl hl (by decide) rfl (fun ls hl => ?_)
    refine lv_iinc (v := nI (1 + 1)) (lv' := [(3, .int (nI (1 + 1))), (2, .int (-100)), (0, .int (-(nI dv))), (1, .int (0))]) hx hb dJ6_stringSize_0f7a4_36 hl (k := 1) rfl (nI_add _ _) (by decide) rfl (fun ls hl => ?_)
    refine lv_goto (tgt := 16) hx hb dJ6_stringSize_0f7a4_39 (by decide) ?_
    refine lv_iload_n hx hb dJ6_stringSize_0f7a4_16 rfl (lv_at hl 0 rfl) ?_
    refine lv_bipush (v := 10) hx hb dJ6_stringSize_0f7a4_17 (by decide) ?_
    refine lv_icmp_ge (tgt := 42) hx hb dJ6_stringSize_0f7a4_19 (by decide) (fun h9 => absurd h9 (by decide)) (fun _ => ?_)
    refine lv_iload_n hx hb dJ6_stringSize_0f7a4_22 rfl (lv_at hl 2 rfl) ?_
    refine lv_iload_n hx hb dJ6_stringSize_0f7a4_23 rfl (lv_at hl 1 rfl) ?_
    refine lv_icmp_le (tgt := 31) hx hb dJ6_stringSize_0f7a4_24 (by decide) (fun h9 => absurd ((sb_nle (by omega) (by decide)).mp (show -nI dv ≤ -nI 100 from h9)) (by omega)) (fun _ => ?_)
    refine lv_iload_n hx hb dJ6_stringSize_0f7a4_27 rfl (lv_at hl 0 rfl) ?_
    refine lv_iload_n hx hb dJ6_stringSize_0f7a4_28 rfl (lv_at hl 3 rfl) ?_
    refine lv_iadd hx hb dJ6_stringSize_0f7a4_29 ?_
    refine endI (r := nI ((1 + 1) + 0)) (nI_add _ _) ?_
    refine endI (r := nI (dgN dv)) (congrArg nI (show dgN dv = 2 from if_neg hv10)).symm ?_
    exact hret ls _ dJ6_stringSize_0f7a4_30

set_option maxHeartbeats 4000000 in
set_option maxRecDepth 100000 in
theorem c_J6_getChars_ba4f3 (l : Launch) (D : va_G) (T : Nat → ClassId) (x : JV) (q0 cm n0 dv : Nat) (a0 : Nat → Int32) (hdv : dv ≤ 99) (hm : cm ≤ 798) (hn0 : n0 + dgN dv ≤ cm) (hf : sb_Fit a0) (sz : Nat) : Met l yJ6_getChars_ba4f3 vtJ6_getChars_ba4f3 ({ frames := 0, cells := 0, slots := 0, locals := 0 } : Room) (va_Pc [.int (nI dv), .int (nI (n0 + dgN dv)), .ref (q0)] (JP D T x ([(q0, .inl (T 3, cm, .inl a0))]) sz)) (va_Qi (fun r9 (u : Nat → Int32) => (sb_Fit u ∧ (∀ j, j < n0 → u j = a0 j) ∧ ∀ j, j < dgN dv → u (n0 + j) = jF (dgL dv) j)) (fun u t => QS D T (va_A ([(q0, .inl (T 3, cm, .inl a0))]) sz) ([(q0, .inl (T 3, cm, .inl u))] : va_W) t) (va_A ([(q0, .inl (T 3, cm, .inl a0))]) sz)) 0 0 (va_A ([(q0, .inl (T 3, cm, .inl a0))]) sz) := by
  refine metJi (ty := .int) (wu := fun (u : Nat → Int32) => ([(q0, .inl (T 3, cm, .inl u))] : va_W)) (cc := cJ6_getChars_ba4f3) (maxL := 7) (by decide) rfl (fun _ _ _ => rfl) (Nat.le_of_ble_eq_true rfl) ?_
  intro p e s m args below meth c Q ls A hx hb hml hown hts hX hP hK hD hA hS hl hret
  have hown : s.vm.findClass RJ6 = some m.cls := hown
  have hl : lv_has ls 7 [(0, .int (nI dv)), (1, .int (nI (n0 + dgN dv))), (2, .ref (q0))] := hl
  have kmw_595 := hts (Cond.fieldLink RJ6 83 "java/lang/Integer" "DigitOnes" "[B") (List.mem_cons_of_mem _ (gJ_of mw_595 rfl))
  have kmw_596 := hts (Cond.fieldLink RJ6 87 "java/lang/Integer" "DigitTens" "[B") (List.mem_cons_of_mem _ (gJ_of mw_596 rfl))
  have hdg2 : 1 ≤ dgN dv ∧ dgN dv ≤ 2 := by unfold dgN; split <;> omega
  have hdg3 : 10 ≤ dv → dgN dv = 2 := fun h => if_neg (by omega)
  have hgo : ∀ (H : Heap) (locs : List Loc), va_P D vwCl ([(q0, .inl (T 3, cm, .inl a0))]) H → va_S A s.heap H locs → W p l e ({ frames := 0, cells := 0, slots := 0, locals := 0 } : Room) s m args below meth c H locs (0) (0) Q (F0 m 0 ls []) := by
    intro H locs hP hS
    refine lv_iload_n hx hb dJ6_getChars_ba4f3_0 rfl (lv_at hl 1 rfl) ?_
    refine lv_istore (lv' := [(5, .int (nI (n0 + dgN dv))), (0, .int (nI dv)), (1, .int (nI (n0 + dgN dv))), (2, .ref (q0))]) hx hb dJ6_getChars_ba4f3_1 hl (by decide) rfl (fun ls hl => ?_)
    refine lv_iload_n hx hb dJ6_getChars_ba4f3_3 rfl (lv_at hl 1 rfl) ?_
    refine lv_if_ge (tgt := 11) hx hb dJ6_getChars_ba4f3_4 (by decide) (fun _ => ?_) (fun h9 => absurd (nI_ge0 (n := dv) (by omega)) h9)
    refine lv_iconst (v := 0) hx hb dJ6_getChars_ba4f3_11 (by decide) ?_
    refine lv_istore (lv' := [(6, .int (0)), (5, .int (nI (n0 + dgN dv))), (0, .int (nI dv)), (1, .int (nI (n0 + dgN dv))), (2, .ref (q0))]) hx hb dJ6_getChars_ba4f3_12 hl (by decide) rfl (fun ls hl => ?_)
    refine lv_iload hx hb dJ6_getChars_ba4f3_14 (lv_at hl 0 rfl) ?_
    refine lv_if_ne (tgt := 22) hx hb dJ6_getChars_ba4f3_16 (by decide) (fun c16 => ?_) (fun c16 => ?_)
    ·
      exact absurd c16 (by decide)
    ·
      refine lv_iload_n hx hb dJ6_getChars_ba4f3_19 rfl (lv_at hl 2 rfl) ?_
      refine lv_ineg hx hb dJ6_getChars_ba4f3_20 ?_
      refine lv_istore_n (lv' := [(0, .int (-(nI dv))), (6, .int (0)), (5, .int (nI (n0 + dgN dv))), (1, .int (nI (n0 + dgN dv))), (2, .ref (q0))]) hx hb dJ6_getChars_ba4f3_21 rfl hl (by decide) rfl (fun ls hl => ?_)
      refine lv_iload_n hx hb dJ6_getChars_ba4f3_22 rfl (lv_at hl 0 rfl) ?_
      refine lv_bipush (v := -100) hx hb dJ6_getChars_ba4f3_23 (by decide) ?_
      refine lv_icmp_gt (tgt := 72) hx hb dJ6_getChars_ba4f3_25 (by decide) (fun _ => ?_) (fun h9 => absurd (show -nI 100 < -nI dv from (sb_nlt (by decide) (by omega)).mpr (by omega)) h9)
      refine lv_aload_n hx hb dJ6_getChars_ba4f3_72 rfl (lv_at hl 4 rfl) ?_
      refine lv_iinc (v := nI ((n0 + dgN dv) - 1)) (lv' := [(5, .int (nI ((n0 + dgN dv) - 1))), (0, .int (-(nI dv))), (6, .int (0)), (1, .int (nI (n0 + dgN dv))), (2, .ref (q0))]) hx hb dJ6_getChars_ba4f3_73 hl (k := 2) rfl (sb_m1 (by omega)) (by decide) rfl (fun ls hl => ?_)
      refine lv_iload hx hb dJ6_getChars_ba4f3_76 (lv_at hl 0 rfl) ?_
      refine va_gets hx hb hX.2.2.1.1 hS hown kmw_595 (fun _ h9 => h9) dJ6_getChars_ba4f3_78 ?_
      refine lv_iload_n hx hb dJ6_getChars_ba4f3_81 rfl (lv_at hl 1 rfl) ?_
      refine lv_ineg hx hb dJ6_getChars_ba4f3_82 ?_
      refine endI (r := nI dv) (Int32.neg_neg) ?_
      refine va_tb (v := .int (nI (48 + dv % 10))) hx hb hX.2.2.1.2 hS (vp_in_nI (by omega) (by omega)) (by show Value.int (nI (48 + (nI dv).toNatClampNeg % 10)) = _; rw [nI_clamp (n := dv) (by omega)]) dJ6_getChars_ba4f3_83 ?_
      refine va_bast hx hb hK hP hD hS 0 3 rfl rfl (vp_in_nI (by omega) (by omega)) dJ6_getChars_ba4f3_84 (fun H locs hP hD hS => ?_)
      rw [nI_clamp (n := (n0 + dgN dv) - 1) (by omega), nar128 (c := 48 + dv % 10) (by omega)] at hP hD
      have hP : va_P D vwCl ([(q0, .inl (T 3, cm, .inl (upd a0 ((n0 + dgN dv) - 1) (nI (48 + dv % 10)))))]) H := hP
      have hD : va_D A ([(q0, .inl (T 3, cm, .inl (upd a0 ((n0 + dgN dv) - 1) (nI (48 + dv % 10)))))]) := hD
      refine lv_iload_n hx hb dJ6_getChars_ba4f3_85 rfl (lv_at hl 1 rfl) ?_
      refine lv_bipush (v := -9) hx hb dJ6_getChars_ba4f3_86 (by decide) ?_
      by_cases hv10 : dv < 10
      ·
        have hdg : dgN dv = 1 := if_pos hv10
        refine lv_icmp_ge (tgt := 104) hx hb dJ6_getChars_ba4f3_88 (by decide) (fun _ => ?_) (fun h9 => absurd (show -nI 9 ≤ -nI dv from (sb_nle (by decide) (by omega)).mpr (by omega)) h9)
        refine lv_iload hx hb dJ6_getChars_ba4f3_104 (lv_at hl 2 rfl) ?_
        refine lv_if_eq (tgt := 118) hx hb dJ6_getChars_ba4f3_106 (by decide) (fun c106 => ?_) (fun c106 => ?_)
        ·
          refine lv_iload hx hb dJ6_getChars_ba4f3_118 (lv_at hl 0 rfl) ?_
          exact hret _ _ _ _ _ _ (nI ((n0 + dgN dv) - 1)) (upd a0 ((n0 + dgN dv) - 1) (nI (48 + dv % 10))) dJ6_getChars_ba4f3_120 (⟨sb_fitU hf (fit128 (by omega)), fun j hj => pk_un (by omega), fun j hj => by obtain rfl : j = 0 := (by omega); rw [show n0 + 0 = n0 + dgN dv - 1 by omega, pk_us, dgL_1 hv10]; congr 1; show 48 + dv % 10 = 48 + dv; omega⟩) hP hD hS (by omega) (by omega)
        ·
          exact absurd c106 (by decide)
      ·
        have hdg : dgN dv = 2 := if_neg hv10
        refine lv_icmp_ge (tgt := 104) hx hb dJ6_getChars_ba4f3_88 (by decide) (fun h9 => absurd ((sb_nle (by decide) (by omega)).mp (show -nI 9 ≤ -nI dv from h9)) (by omega)) (fun _ => ?_)
        refine lv_aload_n hx hb dJ6_getChars_ba4f3_91 rfl (lv_at hl 4 rfl) ?_
        refine lv_iinc (v := nI (((n0 + dgN dv) - 1) - 1)) (lv' := [(5, .int (nI (((n0 + dgN dv) - 1) - 1))), (0, .int (-(nI dv))), (6, .int (0)), (1, .int (nI (n0 + dgN dv))), (2, .ref (q0))]) hx hb dJ6_getChars_ba4f3_92 hl (k := 0) rfl (sb_m1 (by omega)) (by decide) rfl (fun ls hl => ?_)
        refine lv_iload hx hb dJ6_getChars_ba4f3_95 (lv_at hl 0 rfl) ?_
        refine va_gets hx hb hX.2.2.2.1.1 hS hown kmw_596 (fun _ h9 => h9) dJ6_getChars_ba4f3_97 ?_
        refine lv_iload_n hx hb dJ6_getChars_ba4f3_100 rfl (lv_at hl 1 rfl) ?_
        refine lv_ineg hx hb dJ6_getChars_ba4f3_101 ?_
        refine endI (r := nI dv) (Int32.neg_neg) ?_
        refine va_tb (v := .int (nI (48 + dv / 10))) hx hb hX.2.2.2.1.2 hS (vp_in_nI (by omega) (by omega)) (by show Value.int (nI (48 + (nI dv).toNatClampNeg / 10)) = _; rw [nI_clamp (n := dv) (by omega)]) dJ6_getChars_ba4f3_102 ?_
        refine va_bast hx hb hK hP hD hS 0 3 rfl rfl (vp_in_nI (by omega) (by omega)) dJ6_getChars_ba4f3_103 (fun H locs hP hD hS => ?_)
        rw [nI_clamp (n := ((n0 + dgN dv) - 1) - 1) (by omega), nar128 (c := 48 + dv / 10) (by omega)] at hP hD
        have hP : va_P D vwCl ([(q0, .inl (T 3, cm, .inl (upd (upd a0 ((n0 + dgN dv) - 1) (nI (48 + dv % 10))) (((n0 + dgN dv) - 1) - 1) (nI (48 + dv / 10)))))]) H := hP
        have hD : va_D A ([(q0, .inl (T 3, cm, .inl (upd (upd a0 ((n0 + dgN dv) - 1) (nI (48 + dv % 10))) (((n0 + dgN dv) - 1) - 1) (nI (48 + dv / 10)))))]) := hD
        refine lv_iload hx hb dJ6_getChars_ba4f3_104 (lv_at hl 2 rfl) ?_
        refine lv_if_eq (tgt := 118) hx hb dJ6_getChars_ba4f3_106 (by decide) (fun c106 => ?_) (fun c106 => ?_)
        ·
          refine lv_iload hx hb dJ6_getChars_ba4f3_118 (lv_at hl 0 rfl) ?_
          exact hret _ _ _ _ _ _ (nI (((n0 + dgN dv) - 1) - 1)) (upd (upd a0 ((n0 + dgN dv) - 1) (nI (48 + dv % 10))) (((n0 + dgN dv) - 1) - 1) (nI (48 + dv / 10))) dJ6_getChars_ba4f3_120 (⟨sb_fitU (sb_fitU hf (fit128 (by omega))) (fit128 (by omega)), fun j hj => (pk_un (by omega)).trans (pk_un (by omega)), fun j hj => by obtain rfl | rfl : j = 0 ∨ j = 1 := (by omega); (· rw [show n0 + 0 = n0 + dgN dv - 1 - 1 by omega, pk_us, dgL_2 hv10]; rfl); (· rw [show n0 + 1 = n0 + dgN dv - 1 by omega, pk_un (by omega), pk_us, dgL_2 hv10]; rfl)⟩) hP hD hS (by omega) (by omega)
        ·
          exact absurd c106 (by decide)
  exact hgo _ _ hP hS

set_option maxHeartbeats 4000000 in
set_option maxRecDepth 100000 in
theorem c_J5_append_c97b9 (l : Launch) (D : va_G) (T : Nat → ClassId) (x : JV) (b0 q0 cm n0 dv : Nat) (a0 : Nat → Int32) (hdv : dv ≤ 99) (hm : cm ≤ 798) (hn : n0 ≤ cm) (hn0 : n0 + dgN dv ≤ 398) (hf : sb_Fit a0) (sz : Nat) : Met l yJ5_append_c97b9 vtJ5_append_c97b9 ({ frames := 4, cells := 1, slots := 798, locals := 104 } : Room) (va_Pc [.ref (b0), .int (nI dv)] (JP D T x ([(b0, .inr (11, [.ref q0, .int 0, .int 0, .int (nI n0)])), (q0, .inl (T 3, cm, .inl a0))]) sz)) (va_Qr (fun (u : SBU) => (n0 + dgN dv ≤ u.2.1 ∧ u.2.1 ≤ 798 ∧ sb_Fit u.2.2 ∧ (∀ j, j < n0 → u.2.2 j = a0 j) ∧ ∀ j, j < dgN dv → u.2.2 (n0 + j) = jF (dgL dv) j)) (fun u b9 t => b9 = (fun (u : SBU) => b0) u ∧ QS D T (va_A ([(b0, .inr (11, [.ref q0, .int 0, .int 0, .int (nI n0)])), (q0, .inl (T 3, cm, .inl a0))]) sz) ([(b0, .inr (11, [.ref u.1, .int 0, .int 0, .int (nI (n0 + dgN dv))])), (u.1, .inl (T 3, u.2.1, .inl u.2.2))] : va_W) t) (va_A ([(b0, .inr (11, [.ref q0, .int 0, .int 0, .int (nI n0)])), (q0, .inl (T 3, cm, .inl a0))]) sz)) 1 798 (va_A ([(b0, .inr (11, [.ref q0, .int 0, .int 0, .int (nI n0)])), (q0, .inl (T 3, cm, .inl a0))]) sz) := by
  refine metJr (ty := (.object "java/lang/AbstractStringBuilder")) (wu := fun (u : SBU) => ([(b0, .inr (11, [.ref u.1, .int 0, .int 0, .int (nI (n0 + dgN dv))])), (u.1, .inl (T 3, u.2.1, .inl u.2.2))] : va_W)) (ru := fun (u : SBU) => b0) (cc := cJ5_append_c97b9) (maxL := 4) (by decide) rfl (Or.inl ⟨_, rfl⟩) (Nat.le_of_ble_eq_true rfl) ?_
  intro p e s m args below meth c Q ls A hx hb hml hown hts hX hP hK hD hA hS hl hret
  have hown : s.vm.findClass RJ5 = some m.cls := hown
  have hl : lv_has ls 4 [(0, .ref (b0)), (1, .int (nI dv))] := hl
  have iRJ4 : ∀ w ∈ wsJ40, w ∈ vtJ5_append_c97b9 := fun w hw => List.mem_cons_of_mem _ ((g_RJ4 w hw).1)
  have kmw_466 := hts (Cond.fieldLink RJ5 15 "java/lang/AbstractStringBuilder" "value" "[B") (List.mem_cons_of_mem _ (gJ_of mw_466 rfl))
  have kmw_498 := hts (Cond.fieldLink RJ5 79 "java/lang/AbstractStringBuilder" "count" "I") (List.mem_cons_of_mem _ (gJ_of mw_498 rfl))
  have hgo : ∀ (H : Heap) (locs : List Loc), va_P D vwCl ([(b0, .inr (11, [.ref q0, .int 0, .int 0, .int (nI n0)])), (q0, .inl (T 3, cm, .inl a0))]) H → va_S A s.heap H locs → W p l e ({ frames := 4, cells := 1, slots := 798, locals := 104 } : Room) s m args below meth c H locs (0) (0) Q (F0 m 0 ls []) := by
    intro H locs hP hS
    refine lv_aload_n hx hb dJ5_append_c97b9_0 rfl (lv_at hl 0 rfl) ?_
    refine va_get (D := D) (ci := 11) (v := .int (nI n0)) (C := RJ4) (T := TJ4) (N := 4) hx hb hts iRJ4 hown hK hP 0 rfl rfl 3 (by decide) kmw_498 (fun _ h9 => h9) rfl dJ5_append_c97b9_1 ?_
    refine lv_istore_n (lv' := [(2, .int (nI n0)), (0, .ref (b0)), (1, .int (nI dv))]) hx hb dJ5_append_c97b9_4 rfl hl (by decide) rfl (fun ls hl => ?_)
    refine lv_iload_n hx hb dJ5_append_c97b9_5 rfl (lv_at hl 0 rfl) ?_
    refine lv_iload_n hx hb dJ5_append_c97b9_6 rfl (lv_at hl 2 rfl) ?_
    refine rdBS (As := [.int (nI dv)]) (rest := [.int (nI n0)]) (B := fun _ => True) (fun _ _ _ _ _ => trivial) ⟨hx, hb, hml, hown, hts⟩ (c_J6_stringSize_0f7a4 l dv hdv) (va_cwS 1 hts (gCJ gj73S_RJ5_245_J6_stringSize_0f7a4) rfl rfl rfl (by decide +kernel) ⟨Nat.le_of_ble_eq_true rfl, Nat.le_of_ble_eq_true rfl⟩) (fun _ _ _ => trivial) rfl hl.1 rfl (Nat.le_of_ble_eq_true rfl) ⟨by show _ ≤ 1; omega, by show _ ≤ 798; omega⟩ dJ5_append_c97b9_7 ?_
    refine lv_iadd hx hb dJ5_append_c97b9_10 ?_
    refine endI (r := nI (n0 + ((dgN dv)))) (nI_add _ _) ?_
    refine lv_istore_n (lv' := [(3, .int (nI (n0 + ((dgN dv))))), (2, .int (nI n0)), (0, .ref (b0)), (1, .int (nI dv))]) hx hb dJ5_append_c97b9_11 rfl hl (by decide) rfl (fun ls hl => ?_)
    refine lv_aload_n hx hb dJ5_append_c97b9_12 rfl (lv_at hl 2 rfl) ?_
    refine lv_iload_n hx hb dJ5_append_c97b9_13 rfl (lv_at hl 0 rfl) ?_
    have hF0 : Foc [(b0, .inr (11, [.ref q0, .int 0, .int 0, .int (nI n0)])), (q0, .inl (T 3, cm, .inl a0))] [(b0, .inr (11, [.ref q0, .int 0, .int 0, .int (nI n0)])), (q0, .inl (T 3, cm, .inl a0))] [(b0, .inr (11, [.ref q0, .int 0, .int 0, .int (nI n0)])), (q0, .inl (T 3, cm, .inl a0))] [(b0, .inr (11, [.ref q0, .int 0, .int 0, .int (nI n0)])), (q0, .inl (T 3, cm, .inl a0))] := Foc.rfl _ _
    refine jtv (S := SBU) (ws1 := fun u => ([(b0, .inr (11, [.ref u.1, .int 0, .int 0, .int (nI (n0))])), (u.1, .inl (T 3, u.2.1, .inl u.2.2))] : va_W)) (wc1 := fun u => ([(b0, .inr (11, [.ref u.1, .int 0, .int 0, .int (nI (n0))])), (u.1, .inl (T 3, u.2.1, .inl u.2.2))] : va_W)) (va_runV (C := RJ4) (b := b0) (As := [.int (nI (n0 + ((dgN dv))))]) (rest := []) ⟨hx, hb, hml, hown, hts⟩ (c_J5_ensureCapacityInternal_d00df l D T x b0 q0 cm (n0 + dgN dv) n0 a0 hm hn0 hf _) (cwP 1 hts (gCJ gj73P_RJ5_100_J5_ensureCapacityInternal_d00df) rfl rfl rfl (by decide +kernel) ⟨Nat.le_of_ble_eq_true rfl, Nat.le_of_ble_eq_true rfl⟩) ⟨JP.blind _ _ _ _ _ _, va_recv (ci := 11) (q0 := 0) hK ((hF0).subP hP) rfl rfl, jpre (As := [.ref (b0), .int (nI (n0 + ((dgN dv))))]) hF0 hX hK hP hD hS hA⟩ rfl rfl hl.1 rfl (lv_room (m := m) (pc := 14) (ls := ls) (rest := [.int (nI (n0 + ((dgN dv)))), .ref (b0)]) (st := []) (Nat.le_of_ble_eq_true rfl)) dJ5_append_c97b9_14 ⟨by show _ ≤ 1; omega, by show _ ≤ 798; omega⟩) (fun u => Foc.rfl _ _) (hF0) hP hD hS hA (fun u H locs hr hP hD hS => ?_)
    obtain ⟨q9, m9, a9⟩ := u
    obtain ⟨hm1, hm2, hm3, hf9, hk9⟩ := hr
    replace hm1 : n0 + dgN dv ≤ m9 := hm1
    replace hm3 : m9 ≤ 798 := hm3
    have hP : va_P D vwCl ([(b0, .inr (11, [.ref q9, .int 0, .int 0, .int (nI n0)])), (q9, .inl (T 3, m9, .inl a9))]) H := hP
    have hD : va_D A ([(b0, .inr (11, [.ref q9, .int 0, .int 0, .int (nI n0)])), (q9, .inl (T 3, m9, .inl a9))]) := hD
    refine lv_aload_n hx hb dJ5_append_c97b9_17 rfl (lv_at hl 2 rfl) ?_
    have hF0 : Foc [(b0, .inr (11, [.ref q9, .int 0, .int 0, .int (nI n0)])), (q9, .inl (T 3, m9, .inl a9))] [(b0, .inr (11, [.ref q9, .int 0, .int 0, .int (nI n0)])), (q9, .inl (T 3, m9, .inl a9))] [(b0, .inr (11, [.ref q9, .int 0, .int 0, .int (nI n0)])), (q9, .inl (T 3, m9, .inl a9))] [(b0, .inr (11, [.ref q9, .int 0, .int 0, .int (nI n0)])), (q9, .inl (T 3, m9, .inl a9))] := Foc.rfl _ _
    refine jti (S := Unit) (ws1 := fun u => ([(b0, .inr (11, [.ref q9, .int 0, .int 0, .int (nI n0)])), (q9, .inl (T 3, m9, .inl a9))] : va_W)) (wc1 := fun u => ([(b0, .inr (11, [.ref q9, .int 0, .int 0, .int (nI n0)])), (q9, .inl (T 3, m9, .inl a9))] : va_W)) (va_runU (C := RJ4) (b := b0) (As := []) (rest := []) ⟨hx, hb, hml, hown, hts⟩ (c_J5_isLatin1_aae02 l D T x b0 q9 m9 n0 a9 _) (va_cwU 0 hts (gCJ gj73U_RJ5_83_J5_isLatin1_aae02) rfl rfl rfl rfl (by decide +kernel) ⟨Nat.le_of_ble_eq_true rfl, Nat.le_of_ble_eq_true rfl⟩) ⟨JP.blind _ _ _ _ _ _, va_recv (ci := 11) (q0 := 0) hK ((hF0).subP hP) rfl rfl, jpre (As := [.ref (b0)]) hF0 hX hK hP hD hS hA⟩ rfl rfl hl.1 rfl (lv_room (m := m) (pc := 18) (ls := ls) (rest := [.ref (b0)]) (st := []) (Nat.le_of_ble_eq_true rfl)) dJ5_append_c97b9_18 ⟨by show _ ≤ 1; omega, by show _ ≤ 798; omega⟩) (fun u => Foc.rfl _ _) (hF0) hP hD hS hA (fun r9 u H locs hr hP hD hS => ?_)
    subst hr
    have hP : va_P D vwCl ([(b0, .inr (11, [.ref q9, .int 0, .int 0, .int (nI n0)])), (q9, .inl (T 3, m9, .inl a9))]) H := hP
    have hD : va_D A ([(b0, .inr (11, [.ref q9, .int 0, .int 0, .int (nI n0)])), (q9, .inl (T 3, m9, .inl a9))]) := hD
    refine lv_if_eq (tgt := 37) hx hb dJ5_append_c97b9_21 (by decide) (fun c21 => ?_) (fun c21 => ?_)
    ·
      exact absurd c21 (by decide)
    ·
      refine lv_iload_n hx hb dJ5_append_c97b9_24 rfl (lv_at hl 3 rfl) ?_
      refine lv_iload_n hx hb dJ5_append_c97b9_25 rfl (lv_at hl 0 rfl) ?_
      refine lv_aload_n hx hb dJ5_append_c97b9_26 rfl (lv_at hl 2 rfl) ?_
      refine va_get (D := D) (ci := 11) (v := .ref q9) (C := RJ4) (T := TJ4) (N := 4) hx hb hts iRJ4 hown hK hP 0 rfl rfl 0 (by decide) kmw_466 (fun _ h9 => h9) rfl dJ5_append_c97b9_27 ?_
      have hF0 : Foc [(b0, .inr (11, [.ref q9, .int 0, .int 0, .int (nI n0)])), (q9, .inl (T 3, m9, .inl a9))] [(q9, .inl (T 3, m9, .inl a9))] [(b0, .inr (11, [.ref q9, .int 0, .int 0, .int (nI n0)])), (q9, .inl (T 3, m9, .inl a9))] [(q9, .inl (T 3, m9, .inl a9))] := Foc.pre [(b0, .inr (11, [.ref q9, .int 0, .int 0, .int (nI n0)]))] _ _
      refine jti (S := Nat → Int32) (ws1 := fun u => ([(b0, .inr (11, [.ref q9, .int 0, .int 0, .int (nI n0)]))] ++ [(q9, .inl (T 3, m9, .inl u))] : va_W)) (wc1 := fun u => ([(q9, .inl (T 3, m9, .inl u))] : va_W)) (va_runS (As := [.int (nI dv), .int (nI (n0 + ((dgN dv)))), .ref (q9)]) (rest := []) ⟨hx, hb, hml, hown, hts⟩ (c_J6_getChars_ba4f3 l D T x q9 m9 n0 dv a9 hdv hm3 hm1 hf9 _) (va_cwS 3 hts (gCJ gj73S_RJ5_248_J6_getChars_ba4f3) rfl rfl rfl (by decide +kernel) ⟨Nat.le_of_ble_eq_true rfl, Nat.le_of_ble_eq_true rfl⟩) ⟨JP.blind _ _ _ _ _ _, jpre (As := [.int (nI dv), .int (nI (n0 + ((dgN dv)))), .ref (q9)]) hF0 hX hK hP hD hS hA⟩ rfl rfl hl.1 rfl (lv_room (m := m) (pc := 30) (ls := ls) (rest := [.ref (q9), .int (nI (n0 + ((dgN dv)))), .int (nI dv)]) (st := []) (Nat.le_of_ble_eq_true rfl)) dJ5_append_c97b9_30 ⟨by show _ ≤ 1; omega, by show _ ≤ 798; omega⟩) (fun u => Foc.pre [(b0, .inr (11, [.ref q9, .int 0, .int 0, .int (nI n0)]))] _ _) (hF0) hP hD hS hA (fun r9 a8 H locs hr hP hD hS => ?_)
      have hP : va_P D vwCl ([(b0, .inr (11, [.ref q9, .int 0, .int 0, .int (nI n0)])), (q9, .inl (T 3, m9, .inl a8))]) H := hP
      have hD : va_D A ([(b0, .inr (11, [.ref q9, .int 0, .int 0, .int (nI n0)])), (q9, .inl (T 3, m9, .inl a8))]) := hD
      refine lv_pop hx hb dJ5_append_c97b9_33 rfl ?_
      refine lv_goto (tgt := 48) hx hb dJ5_append_c97b9_34 (by decide) ?_
      refine lv_aload_n hx hb dJ5_append_c97b9_48 rfl (lv_at hl 2 rfl) ?_
      refine lv_iload_n hx hb dJ5_append_c97b9_49 rfl (lv_at hl 0 rfl) ?_
      refine va_put (D := D) (ci := 11) (v := .int (nI (n0 + ((dgN dv))))) (ty := .int) (C := RJ4) (T := TJ4) (N := 4) hx hb hts iRJ4 tyJ4 tyJ4_ok nmJ4 hown hK hP hD hS 0 rfl rfl 3 (by decide) kmw_498 (fun _ h9 => h9) rfl (by decide +kernel) rfl rfl (Nat.le_of_ble_eq_true rfl) dJ5_append_c97b9_50 (fun H locs hP hD hS => ?_)
      have hP : va_P D vwCl ([(b0, .inr (11, [.ref q9, .int 0, .int 0, .int (nI (n0 + ((dgN dv))))])), (q9, .inl (T 3, m9, .inl a8))]) H := hP
      have hD : va_D A ([(b0, .inr (11, [.ref q9, .int 0, .int 0, .int (nI (n0 + ((dgN dv))))])), (q9, .inl (T 3, m9, .inl a8))]) := hD
      refine lv_aload_n hx hb dJ5_append_c97b9_53 rfl (lv_at hl 2 rfl) ?_
      exact hret _ _ _ _ _ _ (q9, m9, a8) dJ5_append_c97b9_54 (⟨hm1, hm3, hr.1, fun j hj => (hr.2.1 j hj).trans (hk9 j (by omega)), hr.2.2⟩) hP hD hS (by omega) (by omega)
  exact hgo _ _ hP hS

set_option maxHeartbeats 4000000 in
set_option maxRecDepth 100000 in
theorem c_J4_append_bf812 (l : Launch) (D : va_G) (T : Nat → ClassId) (x : JV) (b0 q0 cm n0 dv : Nat) (a0 : Nat → Int32) (hdv : dv ≤ 99) (hm : cm ≤ 798) (hn : n0 ≤ cm) (hn0 : n0 + dgN dv ≤ 398) (hf : sb_Fit a0) (sz : Nat) : Met l yJ4_append_bf812 vtJ4_append_bf812 ({ frames := 5, cells := 1, slots := 798, locals := 127 } : Room) (va_Pc [.ref (b0), .int (nI dv)] (JP D T x ([(b0, .inr (11, [.ref q0, .int 0, .int 0, .int (nI n0)])), (q0, .inl (T 3, cm, .inl a0))]) sz)) (va_Qr (fun (u : SBU) => (n0 + dgN dv ≤ u.2.1 ∧ u.2.1 ≤ 798 ∧ sb_Fit u.2.2 ∧ (∀ j, j < n0 → u.2.2 j = a0 j) ∧ ∀ j, j < dgN dv → u.2.2 (n0 + j) = jF (dgL dv) j)) (fun u b9 t => b9 = (fun (u : SBU) => b0) u ∧ QS D T (va_A ([(b0, .inr (11, [.ref q0, .int 0, .int 0, .int (nI n0)])), (q0, .inl (T 3, cm, .inl a0))]) sz) ([(b0, .inr (11, [.ref u.1, .int 0, .int 0, .int (nI (n0 + dgN dv))])), (u.1, .inl (T 3, u.2.1, .inl u.2.2))] : va_W) t) (va_A ([(b0, .inr (11, [.ref q0, .int 0, .int 0, .int (nI n0)])), (q0, .inl (T 3, cm, .inl a0))]) sz)) 1 798 (va_A ([(b0, .inr (11, [.ref q0, .int 0, .int 0, .int (nI n0)])), (q0, .inl (T 3, cm, .inl a0))]) sz) := by
  refine metJr (ty := (.object "java/lang/StringBuilder")) (wu := fun (u : SBU) => ([(b0, .inr (11, [.ref u.1, .int 0, .int 0, .int (nI (n0 + dgN dv))])), (u.1, .inl (T 3, u.2.1, .inl u.2.2))] : va_W)) (ru := fun (u : SBU) => b0) (cc := cJ4_append_bf812) (maxL := 2) (by decide) rfl (Or.inl ⟨_, rfl⟩) (Nat.le_of_ble_eq_true rfl) ?_
  intro p e s m args below meth c Q ls A hx hb hml hown hts hX hP hK hD hA hS hl hret
  have hown : s.vm.findClass RJ4 = some m.cls := hown
  have hl : lv_has ls 2 [(0, .ref (b0)), (1, .int (nI dv))] := hl
  have hgo : ∀ (H : Heap) (locs : List Loc), va_P D vwCl ([(b0, .inr (11, [.ref q0, .int 0, .int 0, .int (nI n0)])), (q0, .inl (T 3, cm, .inl a0))]) H → va_S A s.heap H locs → W p l e ({ frames := 5, cells := 1, slots := 798, locals := 127 } : Room) s m args below meth c H locs (0) (0) Q (F0 m 0 ls []) := by
    intro H locs hP hS
    refine lv_aload_n hx hb dJ4_append_bf812_0 rfl (lv_at hl 0 rfl) ?_
    refine lv_iload_n hx hb dJ4_append_bf812_1 rfl (lv_at hl 1 rfl) ?_
    have hF0 : Foc [(b0, .inr (11, [.ref q0, .int 0, .int 0, .int (nI n0)])), (q0, .inl (T 3, cm, .inl a0))] [(b0, .inr (11, [.ref q0, .int 0, .int 0, .int (nI n0)])), (q0, .inl (T 3, cm, .inl a0))] [(b0, .inr (11, [.ref q0, .int 0, .int 0, .int (nI n0)])), (q0, .inl (T 3, cm, .inl a0))] [(b0, .inr (11, [.ref q0, .int 0, .int 0, .int (nI n0)])), (q0, .inl (T 3, cm, .inl a0))] := Foc.rfl _ _
    refine jtr (S := SBU) (ws1 := fun u => ([(b0, .inr (11, [.ref u.1, .int 0, .int 0, .int (nI (n0 + dgN dv))])), (u.1, .inl (T 3, u.2.1, .inl u.2.2))] : va_W)) (wc1 := fun u => ([(b0, .inr (11, [.ref u.1, .int 0, .int 0, .int (nI (n0 + dgN dv))])), (u.1, .inl (T 3, u.2.1, .inl u.2.2))] : va_W)) (ru := fun u => b0) (va_runSU (C := RJ4) (b := b0) (As := [.int (nI dv)]) (rest := []) (hK.1 11 _ rfl).2 ⟨hx, hb, hml, hown, hts⟩ (c_J5_append_c97b9 l D T x b0 q0 cm n0 dv a0 hdv hm hn hn0 hf _) (va_cwSU 1 hts (gCJ gj73SU_RJ4_53_J5_append_c97b9) rfl rfl rfl (by decide +kernel) ⟨Nat.le_of_ble_eq_true rfl, Nat.le_of_ble_eq_true rfl⟩) ⟨JP.blind _ _ _ _ _ _, va_recv (ci := 11) (q0 := 0) hK ((hF0).subP hP) rfl rfl, jpre (As := [.ref (b0), .int (nI dv)]) hF0 hX hK hP hD hS hA⟩ rfl rfl hl.1 rfl (lv_room (m := m) (pc := 2) (ls := ls) (rest := [.int (nI dv), .ref (b0)]) (st := []) (Nat.le_of_ble_eq_true rfl)) dJ4_append_bf812_2 ⟨by show _ ≤ 1; omega, by show _ ≤ 798; omega⟩) (fun u => Foc.rfl _ _) (hF0) hP hD hS hA (fun u H locs hr hP hD hS => ?_)
    obtain ⟨q9, m9, a9⟩ := u
    have hP : va_P D vwCl ([(b0, .inr (11, [.ref q9, .int 0, .int 0, .int (nI (n0 + dgN dv))])), (q9, .inl (T 3, m9, .inl a9))]) H := hP
    have hD : va_D A ([(b0, .inr (11, [.ref q9, .int 0, .int 0, .int (nI (n0 + dgN dv))])), (q9, .inl (T 3, m9, .inl a9))]) := hD
    refine lv_pop hx hb dJ4_append_bf812_5 rfl ?_
    refine lv_aload_n hx hb dJ4_append_bf812_6 rfl (lv_at hl 0 rfl) ?_
    exact hret _ _ _ _ _ _ (q9, m9, a9) dJ4_append_bf812_7 (hr) hP hD hS (by omega) (by omega)
  exact hgo _ _ hP hS
