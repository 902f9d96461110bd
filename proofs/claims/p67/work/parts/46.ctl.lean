set_option maxHeartbeats 4000000 in
set_option maxRecDepth 100000 in
theorem c_X0_init (l : Launch) (D : va_G) (T : Nat → ClassId) (b : Nat) (sz : Nat) : Met l yX0_init wsX0_init ({ frames := 3, cells := 113, slots := 1680, locals := 72 } : Room) (va_Pc [.ref b] (fun U => PS D T [(b, .inr (0, [.int 0, .int 0, .null]))] sz U ∧ NX U)) (va_Qv (fun u : ((Nat → Nat) × (Nat → Nat → Nat)) => u.1 0 = b) (fun u t => QS D T (va_A [(b, .inr (0, [.int 0, .int 0, .null]))] sz) (HIS T u) t) (va_A [(b, .inr (0, [.int 0, .int 0, .null]))] sz)) 113 1680 (va_A [(b, .inr (0, [.int 0, .int 0, .null]))] sz) := by
  refine metK (cc := cX0_init) (maxL := 2) (by decide) rfl (Nat.le_of_ble_eq_true rfl) rfl ?_
  intro p e s m args below meth c Q ls A hx hb hml hown hts hA9 hsz9 hNX hP hK hD hA hS hl hin hret
  have hown : s.vm.findClass RX0 = some m.cls := hown
  have hl : lv_has ls 2 [(0, .ref (b))] := hl
  have i0 : ∀ w ∈ wsX00, w ∈ wsX0_init := by decide +kernel
  have i3 : ∀ w ∈ wsX30, w ∈ wsX0_init := by decide +kernel
  have w1 := hts (Cond.methodLink RX0 3 objectInit) (List.mem_of_getElem? (i := 1) rfl)
  have w2 := hts (Cond.instanceMethod objectInit) (List.mem_of_getElem? (i := 2) rfl)
  have w4 := hts (Cond.classLink RX0 9 RX3) (List.mem_of_getElem? (i := 4) rfl)
  have w5 := hts (Cond.fieldLink RX0 11 "MoonComplaintWindow$History" "kept" "[LMoonComplaintWindow$Office;") (List.mem_of_getElem? (i := 5) rfl)
  have w6 := hts (Cond.instantiable RX3 4) (List.mem_of_getElem? (i := 6) rfl)
  have w7 := hts (Cond.initialized RX3) (List.mem_of_getElem? (i := 7) rfl)
  have w8 := hts (Cond.instanceMethod yX3_init) (List.mem_of_getElem? (i := 8) rfl)
  have hP : va_P D vwCl ([(b, .inr (0, [.int 0, .int 0, .null]))]) s.heap := hP
  refine lv_aload_n hx hb dX0_init_0 rfl (lv_at hl 0 rfl) ?_
  refine W.objInit hx hb hown w1 w2 (hts _ (List.mem_of_getElem? (i := 3) rfl)) rfl (by rw [hml]; exact hl.1) rfl dX0_init_1 (Nat.le_of_ble_eq_true rfl) (Nat.le_of_ble_eq_true rfl) ?_
  refine W.eq (g2 := F0 m 4 ls []) rfl ?_
  refine lv_aload_n hx hb dX0_init_4 rfl (lv_at hl 0 rfl) ?_
  refine lv_bipush (v := 8) hx hb dX0_init_5 (by decide) ?_
  refine newQ (N' := 8) hx hb hown w4 hNX.2 hK hP hD hS hA (by decide) (by decide) (by decide) (Nat.le_of_ble_eq_true rfl) (Nat.le_of_ble_eq_true rfl) dX0_init_7 (fun q7 H hP hD hS => ?_)
  have hP : va_P D vwCl ((b, .inr (0, [.int 0, .int 0, .null])) :: ([] ++ [(q7, .inl (T 2, 8, .inr (.inr (.inr (.inr fun _ => none)))))])) H := hP
  have hD : va_D A ((b, .inr (0, [.int 0, .int 0, .null])) :: ([] ++ [(q7, .inl (T 2, 8, .inr (.inr (.inr (.inr fun _ => none)))))])) := hD
  refine va_putF (D := D) (ci := 0) (v := .ref q7) (ty := .array (.object "MoonComplaintWindow$Office")) (C := RX0) (T := TX0) (N := 3) hx hb hts i0 tyX0 tyX0_ok nmX0 hown hK hP hD hS 0 rfl rfl 2 (by decide) w5 (fun _ h9 => h9) rfl hin rfl (by decide +kernel) rfl rfl (Nat.le_of_ble_eq_true rfl) dX0_init_10 (fun H locs hP hD hS => ?_)
  have hP : va_P D vwCl ((b, .inr (0, [.int 0, .int 0, .ref q7])) :: ([] ++ [(q7, .inl (T 2, 8, .inr (.inr (.inr (.inr fun _ => none)))))])) H := hP
  have hD : va_D A ((b, .inr (0, [.int 0, .int 0, .ref q7])) :: ([] ++ [(q7, .inl (T 2, 8, .inr (.inr (.inr (.inr fun _ => none)))))])) := hD
  refine lv_iconst (v := 0) hx hb dX0_init_13 (by decide) ?_
  refine lv_istore_n (lv' := [(1, .int 0), (0, .ref b)]) hx hb dX0_init_14 rfl hl (by decide) rfl (fun ls hl => ?_)
  have hP : va_P D vwCl ((b, .inr (0, [.int 0, .int 0, .ref q7])) :: (q7, .inl (T 2, 8, .inr (.inr (.inr (.inr fun _ => none))))) :: []) H := hP
  have hD : va_D A ((b, .inr (0, [.int 0, .int 0, .ref q7])) :: (q7, .inl (T 2, 8, .inr (.inr (.inr (.inr fun _ => none))))) :: []) := hD
  rw [kfR_0 (fun _ _ => 0)] at hP hD
  have L : ∀ (n9 : Nat) (i : Nat) (B : Nat → Nat → Nat), 8 - i < n9 → i ≤ 8 → ∀ (H : Heap) (locs : List Loc) (ls : Array Slot), va_P D vwCl ((b, .inr (0, [.int 0, .int 0, .ref q7])) :: (q7, .inl (T 2, 8, .inr (.inr (.inr (.inr (kfR B i)))))) :: OFR T B i) H → va_D A ((b, .inr (0, [.int 0, .int 0, .ref q7])) :: (q7, .inl (T 2, 8, .inr (.inr (.inr (.inr (kfR B i)))))) :: OFR T B i) → va_S A s.heap H locs → lv_has ls 2 [(1, .int (nI i)), (0, .ref b)] → W p l e ({ frames := 3, cells := 113, slots := 1680, locals := 72 } : Room) s m args below meth c H locs (1 + 14 * i) (8 + 209 * i) Q (F0 m 15 ls []) := by
    intro n9
    induction n9 with
    | zero => intro i B hm9; exact absurd hm9 (Nat.not_lt_zero _)
    | succ n9 ih =>
      intro i B hm9 hi9 H locs ls hP hD hS hl
      refine lv_iload_n hx hb dX0_init_15 rfl (lv_at hl 0 rfl) ?_
      refine lv_bipush (v := 8) hx hb dX0_init_16 (by decide) ?_
      refine lv_icmp_ge (tgt := 40) hx hb dX0_init_18 (by decide) (fun c9 => ?_) (fun c9 => ?_)
      · have c9 : 8 ≤ i := (nI_leI (a := 8) (b := i) (by omega) (by omega)).mp c9
        obtain rfl : i = 8 := by omega
        exact hret (fun i => [b, q7].getD i 0, B) _ _ _ _ rfl dX0_init_40 hP hD hS
      · have c9 : i < 8 := by have h9 : ¬ 8 ≤ i := fun h => c9 ((nI_leI (a := 8) (b := i) (by omega) (by omega)).mpr h); omega
        refine lv_aload_n hx hb dX0_init_21 rfl (lv_at hl 1 rfl) ?_
        refine va_get (D := D) (ci := 0) (v := .ref (q7)) (C := RX0) (T := TX0) (N := 3) hx hb hts i0 hown hK hP 0 rfl rfl 2 (by decide) w5 (fun _ h9 => h9) rfl dX0_init_22 ?_
        refine lv_iload_n hx hb dX0_init_25 rfl (lv_at hl 0 rfl) ?_
        refine va_new (ci := 3) (fs := [.int 0, .null, .null, .null]) (C := RX3) (T := TX3) (N := 4) hx hb hts i3 tyX3 tyX3_ok hown w4 w6 w7 hK hP hD hS hA rfl (fun j hj => by rcases (show j = 0 ∨ j = 1 ∨ j = 2 ∨ j = 3 by omega) with rfl | rfl | rfl | rfl <;> rfl) (by show _ ≤ 113; omega) (by show _ ≤ 1680; omega) dX0_init_26 (fun q26 H hP hD hS => ?_)
        refine lv_dup hx hb dX0_init_29 rfl ?_
        refine wrKN (ws := (b, .inr (0, [.int 0, .int 0, .ref q7])) :: (q7, .inl (T 2, 8, .inr (.inr (.inr (.inr (kfR B i)))))) :: OFR T B i) (rest := [.ref q26, .int (nI i), .ref q7]) ⟨hx, hb, hml, hown, hts⟩ (c_X3_init l D T q26 _) ⟨va_cnB (host := "MoonComplaintWindow") 0 hts gX0_init_X3_init_n17 rfl rfl rfl (hNX.1 (RX0, 17, yX3_init) (by decide +kernel)) w7 (by decide +kernel) ⟨Nat.le_of_ble_eq_true rfl, Nat.le_of_ble_eq_true rfl⟩, rfl, w8⟩ hNX hK hP hD hS hA hl.1 rfl (Nat.le_of_ble_eq_true rfl) ⟨by show _ ≤ 113; omega, by show _ ≤ 1680; omega⟩ dX0_init_30 (fun u26 H locs hu hP5 hD5 hS5 => ?_)
        have hu : u26 0 = q26 := hu
        subst hu
        have hP := hP5
        have hD := hD5
        have hS := hS5
        have hP : va_P D vwCl ((b, .inr (0, [.int 0, .int 0, .ref q7])) :: (q7, .inl (T 2, 8, .inr (.inr (.inr (.inr (kfR B i)))))) :: (OFR T B i ++ OFF T u26 zO)) H := hP
        have hD : va_D A ((b, .inr (0, [.int 0, .int 0, .ref q7])) :: (q7, .inl (T 2, 8, .inr (.inr (.inr (.inr (kfR B i)))))) :: (OFR T B i ++ OFF T u26 zO)) := hD
        have hAP := OFR_hd T B i u26
        refine va_astq hx hb hK hP hD hS 1 2 (14 * i + 2) 3 rfl rfl (show ((b, .inr (0, [.int 0, .int 0, .ref q7])) :: (q7, .inl (T 2, 8, .inr (.inr (.inr (.inr (kfR B i)))))) :: (OFR T B i ++ OFF T u26 zO))[14 * i + 2]? = _ from hAP) rfl (nI_in c9 (by decide)) dX0_init_33 (fun H locs hP hD hS => ?_)
        rw [nI_clamp (by omega), kfR_up] at hP hD
        have hP : va_P D vwCl ((b, .inr (0, [.int 0, .int 0, .ref q7])) :: (q7, .inl (T 2, 8, .inr (.inr (.inr (.inr (kfR (va_up B i u26) (i + 1))))))) :: (OFR T B i ++ OFF T u26 zO)) H := hP
        have hD : va_D A ((b, .inr (0, [.int 0, .int 0, .ref q7])) :: (q7, .inl (T 2, 8, .inr (.inr (.inr (.inr (kfR (va_up B i u26) (i + 1))))))) :: (OFR T B i ++ OFF T u26 zO)) := hD
        rw [OFR_up] at hP hD
        refine lv_iinc (v := nI (i + 1)) (lv' := [(1, .int (nI (i + 1))), (0, .ref b)]) hx hb dX0_init_34 hl (k := 0) rfl (nI_1 _) (by decide) rfl (fun ls hl => ?_)
        refine lv_goto (tgt := 15) hx hb dX0_init_37 (by decide) ?_
        refine W.widen (k := 1 + 14 * (i + 1)) (n := 8 + 209 * (i + 1)) (by omega) (by omega) ?_
        exact ih (i + 1) (va_up B i u26) (by omega) (by omega) _ _ _ hP hD hS hl
  exact L _ 0 _ (Nat.lt_succ_self _) (Nat.zero_le _) _ _ _ hP hD hS hl

set_option maxHeartbeats 4000000 in
set_option maxRecDepth 100000 in
theorem c_X7_init (l : Launch) (D : va_G) (T : Nat → ClassId) (b : Nat) (sz : Nat) : Met l yX7_init wsX7_init ({ frames := 3, cells := 30, slots := 422, locals := 72 } : Room) (va_Pc [.ref b] (fun U => PS D T [(b, .inr (7, [.null, .null]))] sz U ∧ NX U)) (va_Qv (fun u : ((Nat → Nat) × (Nat → Nat → Nat)) => u.1 0 = b) (fun u t => QS D T (va_A [(b, .inr (7, [.null, .null]))] sz) (SNA T u) t) (va_A [(b, .inr (7, [.null, .null]))] sz)) 30 422 (va_A [(b, .inr (7, [.null, .null]))] sz) := by
  refine metK (cc := cX7_init) (maxL := 2) (by decide) rfl (Nat.le_of_ble_eq_true rfl) rfl ?_
  intro p e s m args below meth c Q ls A hx hb hml hown hts hA9 hsz9 hNX hP hK hD hA hS hl hin hret
  have hown : s.vm.findClass RX7 = some m.cls := hown
  have hl : lv_has ls 2 [(0, .ref (b))] := hl
  have i3 : ∀ w ∈ wsX30, w ∈ wsX7_init := by decide +kernel
  have i7 : ∀ w ∈ wsX70, w ∈ wsX7_init := by decide +kernel
  have w1 := hts (Cond.methodLink RX7 3 objectInit) (List.mem_of_getElem? (i := 1) rfl)
  have w2 := hts (Cond.instanceMethod objectInit) (List.mem_of_getElem? (i := 2) rfl)
  have w4 := hts (Cond.arrayClass .boolean) (List.mem_of_getElem? (i := 4) rfl)
  have w5 := hts (Cond.fieldLink RX7 9 "MoonComplaintWindow$Snapshots" "taken" "[Z") (List.mem_of_getElem? (i := 5) rfl)
  have w6 := hts (Cond.classLink RX7 15 RX3) (List.mem_of_getElem? (i := 6) rfl)
  have w7 := hts (Cond.fieldLink RX7 17 "MoonComplaintWindow$Snapshots" "offices" "[LMoonComplaintWindow$Office;") (List.mem_of_getElem? (i := 7) rfl)
  have w8 := hts (Cond.instantiable RX3 4) (List.mem_of_getElem? (i := 8) rfl)
  have w9 := hts (Cond.initialized RX3) (List.mem_of_getElem? (i := 9) rfl)
  have w10 := hts (Cond.instanceMethod yX3_init) (List.mem_of_getElem? (i := 10) rfl)
  have hP : va_P D vwCl ([(b, .inr (7, [.null, .null]))]) s.heap := hP
  refine lv_aload_n hx hb dX7_init_0 rfl (lv_at hl 0 rfl) ?_
  refine W.objInit hx hb hown w1 w2 (hts _ (List.mem_of_getElem? (i := 3) rfl)) rfl (by rw [hml]; exact hl.1) rfl dX7_init_1 (Nat.le_of_ble_eq_true rfl) (Nat.le_of_ble_eq_true rfl) ?_
  refine W.eq (g2 := F0 m 4 ls []) rfl ?_
  refine lv_aload_n hx hb dX7_init_4 rfl (lv_at hl 0 rfl) ?_
  refine lv_iconst (v := 2) hx hb dX7_init_5 (by decide) ?_
  refine newZ (N' := 2) hx hb w4 hK hP hD hS hA (by decide) (by decide) (by decide) (Nat.le_of_ble_eq_true rfl) (Nat.le_of_ble_eq_true rfl) dX7_init_6 (fun q6 H hP hD hS => ?_)
  have hP : va_P D vwCl ((b, .inr (7, [.null, .null])) :: [(q6, .inl (T 1, 2, .inl fun _ => 0))]) H := hP
  have hD : va_D A ((b, .inr (7, [.null, .null])) :: [(q6, .inl (T 1, 2, .inl fun _ => 0))]) := hD
  refine va_putF (D := D) (ci := 7) (v := .ref q6) (ty := .array .boolean) (C := RX7) (T := TX7) (N := 2) hx hb hts i7 tyX7 tyX7_ok nmX7 hown hK hP hD hS 0 rfl rfl 0 (by decide) w5 (fun _ h9 => h9) rfl hin rfl (by decide +kernel) rfl rfl (Nat.le_of_ble_eq_true rfl) dX7_init_8 (fun H locs hP hD hS => ?_)
  have hP : va_P D vwCl ((b, .inr (7, [.ref q6, .null])) :: [(q6, .inl (T 1, 2, .inl fun _ => 0))]) H := hP
  have hD : va_D A ((b, .inr (7, [.ref q6, .null])) :: [(q6, .inl (T 1, 2, .inl fun _ => 0))]) := hD
  refine lv_aload_n hx hb dX7_init_11 rfl (lv_at hl 0 rfl) ?_
  refine lv_iconst (v := 2) hx hb dX7_init_12 (by decide) ?_
  refine newQ (N' := 2) hx hb hown w6 hNX.2 hK hP hD hS hA (by decide) (by decide) (by decide) (Nat.le_of_ble_eq_true rfl) (Nat.le_of_ble_eq_true rfl) dX7_init_13 (fun q13 H hP hD hS => ?_)
  have hP : va_P D vwCl ((b, .inr (7, [.ref q6, .null])) :: ([(q6, .inl (T 1, 2, .inl fun _ => 0))] ++ [(q13, .inl (T 2, 2, .inr (.inr (.inr (.inr fun _ => none)))))])) H := hP
  have hD : va_D A ((b, .inr (7, [.ref q6, .null])) :: ([(q6, .inl (T 1, 2, .inl fun _ => 0))] ++ [(q13, .inl (T 2, 2, .inr (.inr (.inr (.inr fun _ => none)))))])) := hD
  refine va_putF (D := D) (ci := 7) (v := .ref q13) (ty := .array (.object "MoonComplaintWindow$Office")) (C := RX7) (T := TX7) (N := 2) hx hb hts i7 tyX7 tyX7_ok nmX7 hown hK hP hD hS 0 rfl rfl 1 (by decide) w7 (fun _ h9 => h9) rfl hin rfl (by decide +kernel) rfl rfl (Nat.le_of_ble_eq_true rfl) dX7_init_16 (fun H locs hP hD hS => ?_)
  have hP : va_P D vwCl ((b, .inr (7, [.ref q6, .ref q13])) :: ([(q6, .inl (T 1, 2, .inl fun _ => 0))] ++ [(q13, .inl (T 2, 2, .inr (.inr (.inr (.inr fun _ => none)))))])) H := hP
  have hD : va_D A ((b, .inr (7, [.ref q6, .ref q13])) :: ([(q6, .inl (T 1, 2, .inl fun _ => 0))] ++ [(q13, .inl (T 2, 2, .inr (.inr (.inr (.inr fun _ => none)))))])) := hD
  refine lv_iconst (v := 0) hx hb dX7_init_19 (by decide) ?_
  refine lv_istore_n (lv' := [(1, .int 0), (0, .ref b)]) hx hb dX7_init_20 rfl hl (by decide) rfl (fun ls hl => ?_)
  have hP : va_P D vwCl ((b, .inr (7, [.ref q6, .ref q13])) :: (q6, .inl (T 1, 2, .inl fun _ => 0)) :: (q13, .inl (T 2, 2, .inr (.inr (.inr (.inr fun _ => none))))) :: []) H := hP
  have hD : va_D A ((b, .inr (7, [.ref q6, .ref q13])) :: (q6, .inl (T 1, 2, .inl fun _ => 0)) :: (q13, .inl (T 2, 2, .inr (.inr (.inr (.inr fun _ => none))))) :: []) := hD
  rw [kfR_0 (fun _ _ => 0)] at hP hD
  have L : ∀ (n9 : Nat) (i : Nat) (B : Nat → Nat → Nat), 2 - i < n9 → i ≤ 2 → ∀ (H : Heap) (locs : List Loc) (ls : Array Slot), va_P D vwCl ((b, .inr (7, [.ref q6, .ref q13])) :: (q6, .inl (T 1, 2, .inl fun _ => 0)) :: (q13, .inl (T 2, 2, .inr (.inr (.inr (.inr (kfR B i)))))) :: OFR T B i) H → va_D A ((b, .inr (7, [.ref q6, .ref q13])) :: (q6, .inl (T 1, 2, .inl fun _ => 0)) :: (q13, .inl (T 2, 2, .inr (.inr (.inr (.inr (kfR B i)))))) :: OFR T B i) → va_S A s.heap H locs → lv_has ls 2 [(1, .int (nI i)), (0, .ref b)] → W p l e ({ frames := 3, cells := 30, slots := 422, locals := 72 } : Room) s m args below meth c H locs (2 + 14 * i) (4 + 209 * i) Q (F0 m 21 ls []) := by
    intro n9
    induction n9 with
    | zero => intro i B hm9; exact absurd hm9 (Nat.not_lt_zero _)
    | succ n9 ih =>
      intro i B hm9 hi9 H locs ls hP hD hS hl
      refine lv_iload_n hx hb dX7_init_21 rfl (lv_at hl 0 rfl) ?_
      refine lv_iconst (v := 2) hx hb dX7_init_22 (by decide) ?_
      refine lv_icmp_ge (tgt := 45) hx hb dX7_init_23 (by decide) (fun c9 => ?_) (fun c9 => ?_)
      · have c9 : 2 ≤ i := (nI_leI (a := 2) (b := i) (by omega) (by omega)).mp c9
        obtain rfl : i = 2 := by omega
        exact hret (fun i => [b, q6, q13].getD i 0, B) _ _ _ _ rfl dX7_init_45 hP hD hS
      · have c9 : i < 2 := by have h9 : ¬ 2 ≤ i := fun h => c9 ((nI_leI (a := 2) (b := i) (by omega) (by omega)).mpr h); omega
        refine lv_aload_n hx hb dX7_init_26 rfl (lv_at hl 1 rfl) ?_
        refine va_get (D := D) (ci := 7) (v := .ref (q13)) (C := RX7) (T := TX7) (N := 2) hx hb hts i7 hown hK hP 0 rfl rfl 1 (by decide) w7 (fun _ h9 => h9) rfl dX7_init_27 ?_
        refine lv_iload_n hx hb dX7_init_30 rfl (lv_at hl 0 rfl) ?_
        refine va_new (ci := 3) (fs := [.int 0, .null, .null, .null]) (C := RX3) (T := TX3) (N := 4) hx hb hts i3 tyX3 tyX3_ok hown w6 w8 w9 hK hP hD hS hA rfl (fun j hj => by rcases (show j = 0 ∨ j = 1 ∨ j = 2 ∨ j = 3 by omega) with rfl | rfl | rfl | rfl <;> rfl) (by show _ ≤ 30; omega) (by show _ ≤ 422; omega) dX7_init_31 (fun q31 H hP hD hS => ?_)
        refine lv_dup hx hb dX7_init_34 rfl ?_
        refine wrKN (ws := (b, .inr (7, [.ref q6, .ref q13])) :: (q6, .inl (T 1, 2, .inl fun _ => 0)) :: (q13, .inl (T 2, 2, .inr (.inr (.inr (.inr (kfR B i)))))) :: OFR T B i) (rest := [.ref q31, .int (nI i), .ref q13]) ⟨hx, hb, hml, hown, hts⟩ (c_X3_init l D T q31 _) ⟨va_cnB (host := "MoonComplaintWindow") 0 hts gX7_init_X3_init_n21 rfl rfl rfl (hNX.1 (RX7, 21, yX3_init) (by decide +kernel)) w9 (by decide +kernel) ⟨Nat.le_of_ble_eq_true rfl, Nat.le_of_ble_eq_true rfl⟩, rfl, w10⟩ hNX hK hP hD hS hA hl.1 rfl (Nat.le_of_ble_eq_true rfl) ⟨by show _ ≤ 30; omega, by show _ ≤ 422; omega⟩ dX7_init_35 (fun u31 H locs hu hP5 hD5 hS5 => ?_)
        have hu : u31 0 = q31 := hu
        subst hu
        have hP := hP5
        have hD := hD5
        have hS := hS5
        have hP : va_P D vwCl ((b, .inr (7, [.ref q6, .ref q13])) :: (q6, .inl (T 1, 2, .inl fun _ => 0)) :: (q13, .inl (T 2, 2, .inr (.inr (.inr (.inr (kfR B i)))))) :: (OFR T B i ++ OFF T u31 zO)) H := hP
        have hD : va_D A ((b, .inr (7, [.ref q6, .ref q13])) :: (q6, .inl (T 1, 2, .inl fun _ => 0)) :: (q13, .inl (T 2, 2, .inr (.inr (.inr (.inr (kfR B i)))))) :: (OFR T B i ++ OFF T u31 zO)) := hD
        have hAP := OFR_hd T B i u31
        refine va_astq hx hb hK hP hD hS 2 2 (14 * i + 3) 3 rfl rfl (show ((b, .inr (7, [.ref q6, .ref q13])) :: (q6, .inl (T 1, 2, .inl fun _ => 0)) :: (q13, .inl (T 2, 2, .inr (.inr (.inr (.inr (kfR B i)))))) :: (OFR T B i ++ OFF T u31 zO))[14 * i + 3]? = _ from hAP) rfl (nI_in c9 (by decide)) dX7_init_38 (fun H locs hP hD hS => ?_)
        rw [nI_clamp (by omega), kfR_up] at hP hD
        have hP : va_P D vwCl ((b, .inr (7, [.ref q6, .ref q13])) :: (q6, .inl (T 1, 2, .inl fun _ => 0)) :: (q13, .inl (T 2, 2, .inr (.inr (.inr (.inr (kfR (va_up B i u31) (i + 1))))))) :: (OFR T B i ++ OFF T u31 zO)) H := hP
        have hD : va_D A ((b, .inr (7, [.ref q6, .ref q13])) :: (q6, .inl (T 1, 2, .inl fun _ => 0)) :: (q13, .inl (T 2, 2, .inr (.inr (.inr (.inr (kfR (va_up B i u31) (i + 1))))))) :: (OFR T B i ++ OFF T u31 zO)) := hD
        rw [OFR_up] at hP hD
        refine lv_iinc (v := nI (i + 1)) (lv' := [(1, .int (nI (i + 1))), (0, .ref b)]) hx hb dX7_init_39 hl (k := 0) rfl (nI_1 _) (by decide) rfl (fun ls hl => ?_)
        refine lv_goto (tgt := 21) hx hb dX7_init_42 (by decide) ?_
        refine W.widen (k := 2 + 14 * (i + 1)) (n := 4 + 209 * (i + 1)) (by omega) (by omega) ?_
        exact ih (i + 1) (va_up B i u31) (by omega) (by omega) _ _ _ hP hD hS hl
  exact L _ 0 _ (Nat.lt_succ_self _) (Nat.zero_le _) _ _ _ hP hD hS hl
