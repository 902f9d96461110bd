set_option maxHeartbeats 4000000 in
set_option maxRecDepth 100000 in
theorem c_X10_load (l : Launch) (D : va_G) (T : Nat → ClassId) (b : Nat → Nat) (y : Nat → Nat → Int32) (w : Int64) (L : Nat) (hL : y 0 1 = nI L) (hL2 : L ≤ 600) (sz : Nat) : Met l yX10_load wsX10_load ({ frames := 7, cells := 0, slots := 0, locals := 148 } : Room) (va_Pc [.ref (b 0)] (PS D T (REF T b y w) sz)) (va_Qi (fun r9 (_ : Unit) => r9 = (if (loadQ (loadY y) w L).2.2.2.2.2.2.1 then 0 else rLay (loadZ (loadY y) w L 2) 0 0 (loadZ (loadY y) w L 1) 6)) (fun _ t => QS D T (va_A (REF T b y w) sz) (REF T b (loadR y w L) ((loadQ (loadY y) w L).2.2.2.2.2.1)) t) (va_A (REF T b y w) sz)) 0 0 (va_A (REF T b y w) sz) := by
  refine metSi (cc := cX10_load) (maxL := 2) (ty := .int) (by decide) rfl (by rfl) (Nat.le_of_ble_eq_true rfl) ?_
  intro p e s m args below meth c Q ls A hx hb hml hown hts hP hK hD hA hS hl hret
  have hown : s.vm.findClass RX10 = some m.cls := hown
  have hl : lv_has ls 2 [(0, .ref (b 0))] := hl
  have i10 : ∀ w ∈ wsX100, w ∈ wsX10_load := by decide +kernel
  have w1 := hts (Cond.fieldLink RX10 51 "MoonComplaintWindowModel" "thrown" "I") (List.mem_of_getElem? (i := 1) rfl)
  have w2 := hts (Cond.fieldLink RX10 13 "MoonComplaintWindowModel" "draft" "[I") (List.mem_of_getElem? (i := 2) rfl)
  have w3 := hts (Cond.fieldLink RX10 172 "MoonComplaintWindowModel" "at" "I") (List.mem_of_getElem? (i := 3) rfl)
  have w4 := hts (Cond.fieldLink RX10 204 "MoonComplaintWindowModel" "isWrong" "Z") (List.mem_of_getElem? (i := 4) rfl)
  have w5 := hts (Cond.fieldLink RX10 32 "MoonComplaintWindowModel" "error" "I") (List.mem_of_getElem? (i := 5) rfl)
  have w6 := hts (Cond.fieldLink RX10 166 "MoonComplaintWindowModel" "length" "I") (List.mem_of_getElem? (i := 6) rfl)
  have w7 := hts (Cond.fieldLink RX10 7 "MoonComplaintWindowModel" "now" "[I") (List.mem_of_getElem? (i := 7) rfl)
  have w8 := hts (Cond.fieldLink RX10 257 "MoonComplaintWindowModel" "undos" "I") (List.mem_of_getElem? (i := 8) rfl)
  have w9 := hts (Cond.fieldLink RX10 25 "MoonComplaintWindowModel" "isKept" "[Z") (List.mem_of_getElem? (i := 9) rfl)
  refine lv_aload_n hx hb dX10_load_0 rfl (lv_at hl 0 rfl) ?_
  refine lv_iconst (v := 0) hx hb dX10_load_1 (by decide) ?_
  refine va_put (D := D) (ci := 10) (v := .int (0)) (ty := .int) (C := RX10) (T := TX10) (N := 19) hx hb hts i10 tyX10 tyX10_ok nmX10 hown hK hP hD hS 0 rfl rfl 10 (by decide) w1 (fun _ h9 => h9) rfl (by decide +kernel) rfl rfl (Nat.le_of_ble_eq_true rfl) dX10_load_2 (fun H locs hP hD hS => ?_)
  have hP : va_P D vwCl (REF T b (yS y 3 0) w) H := hP
  have hD : va_D A (REF T b (yS y 3 0) w) := hD
  refine lv_iconst (v := 0) hx hb dX10_load_5 (by decide) ?_
  refine lv_istore_n (lv' := [(1, .int (0)), (0, .ref (b 0))]) hx hb dX10_load_6 rfl hl (by decide) rfl (fun ls hl => ?_)
  have L7 : ∀ (n9 : Nat) (k : Nat) (f2 : Nat → Int32), (202 - k) < n9 → (k ≤ 202) → (iter (fun k f => va_up f k 0) (202 - k) k f2 = zeroD (y 2)) → ∀ (H : Heap) (locs : List Loc) (ls : Array Slot), va_P D vwCl (REF T b (yS (va_up y 2 f2) 3 0) w) H → va_D A (REF T b (yS (va_up y 2 f2) 3 0) w) → va_S A s.heap H locs → lv_has ls 2 [(1, .int (nI k)), (0, .ref (b 0))] → W p l e ({ frames := 7, cells := 0, slots := 0, locals := 148 } : Room) s m args below meth c H locs 0 0 Q (F0 m 7 ls []) := by
    intro n9
    induction n9 with
    | zero => intro k f2 hm9; exact absurd hm9 (Nat.not_lt_zero _)
    | succ n9 ih =>
      intro k f2 hm9 hk9 hR H locs ls hP hD hS hl
      refine lv_iload_n hx hb dX10_load_7 rfl (lv_at hl 0 rfl) ?_
      refine lv_sipush (v := 202) hx hb dX10_load_8 (by decide) ?_
      refine lv_icmp_ge (tgt := 27) hx hb dX10_load_11 (by decide) (fun c11 => ?_) (fun c11 => ?_)
      ·
        have c11 : 202 ≤ k := (nI_leI (a := 202) (b := k) (by omega) (by omega)).mp c11
        rw [iter_done (by omega)] at hR
        rw [hR] at hP hD
        generalize hY : yS (va_up y 2 (zeroD (y 2))) 3 0 = Y at hP hD
        have hY : loadY y = Y := hY
        have hP : va_P D vwCl (REF T b Y w) H := hP
        have hD : va_D A (REF T b Y w) := hD
        refine lv_aload_n hx hb dX10_load_27 rfl (lv_at hl 1 rfl) ?_
        refine lv_iconst (v := 0) hx hb dX10_load_28 (by decide) ?_
        refine va_put (D := D) (ci := 10) (v := .int (0)) (ty := .int) (C := RX10) (T := TX10) (N := 19) hx hb hts i10 tyX10 tyX10_ok nmX10 hown hK hP hD hS 0 rfl rfl 11 (by decide) w3 (fun _ h9 => h9) rfl (by decide +kernel) rfl rfl (Nat.le_of_ble_eq_true rfl) dX10_load_29 (fun H locs hP hD hS => ?_)
        have hP : va_P D vwCl (REF T b (yS Y 4 0) w) H := hP
        have hD : va_D A (REF T b (yS Y 4 0) w) := hD
        refine lv_aload_n hx hb dX10_load_32 rfl (lv_at hl 1 rfl) ?_
        refine lv_iconst (v := 0) hx hb dX10_load_33 (by decide) ?_
        refine va_put (D := D) (ci := 10) (v := .int (0)) (ty := .boolean) (C := RX10) (T := TX10) (N := 19) hx hb hts i10 tyX10 tyX10_ok nmX10 hown hK hP hD hS 0 rfl rfl 16 (by decide) w4 (fun _ h9 => h9) rfl (by decide +kernel) rfl rfl (Nat.le_of_ble_eq_true rfl) dX10_load_34 (fun H locs hP hD hS => ?_)
        have hP : va_P D vwCl (REF T b (yS (yS Y 4 0) 8 0) w) H := hP
        have hD : va_D A (REF T b (yS (yS Y 4 0) 8 0) w) := hD
        refine lv_aload_n hx hb dX10_load_37 rfl (lv_at hl 1 rfl) ?_
        refine lv_iconst (v := -1) hx hb dX10_load_38 (by decide) ?_
        refine va_put (D := D) (ci := 10) (v := .int (-1)) (ty := .int) (C := RX10) (T := TX10) (N := 19) hx hb hts i10 tyX10 tyX10_ok nmX10 hown hK hP hD hS 0 rfl rfl 9 (by decide) w5 (fun _ h9 => h9) rfl (by decide +kernel) rfl rfl (Nat.le_of_ble_eq_true rfl) dX10_load_39 (fun H locs hP hD hS => ?_)
        have hP : va_P D vwCl (REF T b (yS (yS (yS Y 4 0) 8 0) 2 (-1)) w) H := hP
        have hD : va_D A (REF T b (yS (yS (yS Y 4 0) 8 0) 2 (-1)) w) := hD
        rw [load_in] at hP hD
        have hYL : Y 0 1 = nI L := by rw [← hY]; exact hL
        have hY2 : ∀ i, i < 202 → Y 2 i = nI 0 := by intro i hi; rw [← hY]; exact zeroD_0 hi
        have hP : va_P D vwCl (PARW T b Y ((0, Y 0 5, Y 0 6, Y 0 7, w, false, -1))) H := hP
        have hD : va_D A (PARW T b Y ((0, Y 0 5, Y 0 6, Y 0 7, w, false, -1))) := hD
        refine lv_aload_n hx hb dX10_load_42 rfl (lv_at hl 1 rfl) ?_
        refine wrVv (As := []) (rest := []) ⟨hx, hb, hml, hown, hts⟩ (c_X10_next l D T b Y ((0, Y 0 5, Y 0 6, Y 0 7, w, false, -1)) L hYL hL2 (Nat.zero_le _) _) (cwV 0 hts gX10_load_X10_next rfl rfl rfl (by decide +kernel) ⟨Nat.le_of_ble_eq_true rfl, Nat.le_of_ble_eq_true rfl⟩) (Foc.rfl _ _) hK hP hD hS hA 0 rfl rfl rfl hl.1 rfl (Nat.le_of_ble_eq_true rfl) ⟨Nat.zero_le _, Nat.zero_le _⟩ dX10_load_43 (fun H locs hP hD hS => ?_)
        have hP : va_P D vwCl (PARW T b Y (tokP (Y 7) L ((0, Y 0 5, Y 0 6, Y 0 7, w, false, -1)))) H := hP
        have hD : va_D A (PARW T b Y (tokP (Y 7) L ((0, Y 0 5, Y 0 6, Y 0 7, w, false, -1)))) := hD
        have hP : va_P D vwCl (PARW T b Y (tokP (Y 7) L (0, Y 0 5, Y 0 6, Y 0 7, w, false, -1))) H := hP
        have hD : va_D A (PARW T b Y (tokP (Y 7) L (0, Y 0 5, Y 0 6, Y 0 7, w, false, -1))) := hD
        refine lv_aload_n hx hb dX10_load_46 rfl (lv_at hl 1 rfl) ?_
        refine wrVv (As := []) (rest := []) ⟨hx, hb, hml, hown, hts⟩ (c_X10_readText l D T b Y (tokP (Y 7) L (0, Y 0 5, Y 0 6, Y 0 7, w, false, -1)) L hYL hL2 (tkR_le (Nat.zero_le _)).2 (hY2 4 (by omega)) (hY2 5 (by omega)) (hY2 6 (by omega)) _) (cwV 0 hts gX10_load_X10_readText rfl rfl rfl (by decide +kernel) ⟨Nat.le_of_ble_eq_true rfl, Nat.le_of_ble_eq_true rfl⟩) (Foc.rfl _ _) hK hP hD hS hA 0 rfl rfl rfl hl.1 rfl (Nat.le_of_ble_eq_true rfl) ⟨Nat.zero_le _, Nat.zero_le _⟩ dX10_load_47 (fun H locs hP hD hS => ?_)
        rw [loadQ_is] at hP hD
        have hP : va_P D vwCl (PARW T b (va_up Y 2 ((txR (Y 7) L (Y 2) (tokP (Y 7) L (0, Y 0 5, Y 0 6, Y 0 7, w, false, -1))).1)) ((txR (Y 7) L (Y 2) (tokP (Y 7) L (0, Y 0 5, Y 0 6, Y 0 7, w, false, -1))).2)) H := hP
        have hD : va_D A (PARW T b (va_up Y 2 ((txR (Y 7) L (Y 2) (tokP (Y 7) L (0, Y 0 5, Y 0 6, Y 0 7, w, false, -1))).1)) ((txR (Y 7) L (Y 2) (tokP (Y 7) L (0, Y 0 5, Y 0 6, Y 0 7, w, false, -1))).2)) := hD
        have hP : va_P D vwCl (PARW T b (va_up Y 2 ((loadQ Y w L).1)) ((loadQ Y w L).2)) H := hP
        have hD : va_D A (PARW T b (va_up Y 2 ((loadQ Y w L).1)) ((loadQ Y w L).2)) := hD
        rw [load_out] at hP hD
        have hZ8 := loadZ_8 Y w L
        generalize hZ : loadZ Y w L = Z at hP hD hZ8
        have hP : va_P D vwCl (REF T b Z ((loadQ Y w L).2.2.2.2.2.1)) H := hP
        have hD : va_D A (REF T b Z ((loadQ Y w L).2.2.2.2.2.1)) := hD
        refine lv_aload_n hx hb dX10_load_50 rfl (lv_at hl 1 rfl) ?_
        refine lv_iconst (v := 0) hx hb dX10_load_51 (by decide) ?_
        refine va_put (D := D) (ci := 10) (v := .int (0)) (ty := .int) (C := RX10) (T := TX10) (N := 19) hx hb hts i10 tyX10 tyX10_ok nmX10 hown hK hP hD hS 0 rfl rfl 8 (by decide) w6 (fun _ h9 => h9) rfl (by decide +kernel) rfl rfl (Nat.le_of_ble_eq_true rfl) dX10_load_52 (fun H locs hP hD hS => ?_)
        have hP : va_P D vwCl (REF T b (yS Z 1 0) ((loadQ Y w L).2.2.2.2.2.1)) H := hP
        have hD : va_D A (REF T b (yS Z 1 0) ((loadQ Y w L).2.2.2.2.2.1)) := hD
        refine lv_aload_n hx hb dX10_load_55 rfl (lv_at hl 1 rfl) ?_
        refine va_get (D := D) (ci := 10) (v := .int (Z 0 8)) (C := RX10) (T := TX10) (N := 19) hx hb hts i10 hown hK hP 0 rfl rfl 16 (by decide) w4 (fun _ h9 => h9) rfl dX10_load_56 ?_
        refine endI (r := bI ((loadQ Y w L).2.2.2.2.2.2.1)) (hZ8) ?_
        refine lv_if_eq (tgt := 68) hx hb dX10_load_59 (by decide) (fun c59 => ?_) (fun c59 => ?_)
        ·
          have c59 := bI_0.mp c59
          have c59 : (loadQ Y w L).2.2.2.2.2.2.1 = false := c59
          refine lv_aload_n hx hb dX10_load_68 rfl (lv_at hl 1 rfl) ?_
          refine va_get (D := D) (ci := 10) (v := .ref (b 2)) (C := RX10) (T := TX10) (N := 19) hx hb hts i10 hown hK hP 0 rfl rfl 1 (by decide) w2 (fun _ h9 => h9) rfl dX10_load_69 ?_
          refine lv_iconst (v := 0) hx hb dX10_load_72 (by decide) ?_
          refine lv_aload_n hx hb dX10_load_73 rfl (lv_at hl 1 rfl) ?_
          refine va_get (D := D) (ci := 10) (v := .ref (b 1)) (C := RX10) (T := TX10) (N := 19) hx hb hts i10 hown hK hP 0 rfl rfl 0 (by decide) w7 (fun _ h9 => h9) rfl dX10_load_74 ?_
          refine lv_iconst (v := 0) hx hb dX10_load_77 (by decide) ?_
          refine wrSv (As := [.ref (b 2), .int (0), .ref (b 1), .int (0)]) (rest := []) ⟨hx, hb, hml, hown, hts⟩ (c_X10_layRow l D T (b 2) 202 (Z 2) (b 1) 202 (Z 1) 0 0 (by first | omega | assumption | decide) (by first | omega | assumption | decide) (by first | omega | assumption | decide) (by first | omega | assumption | decide) _) (va_cwS 4 hts gX10_load_X10_layRow rfl rfl rfl (by decide +kernel) ⟨Nat.le_of_ble_eq_true rfl, Nat.le_of_ble_eq_true rfl⟩) (show Foc (REF T b (yS Z 1 0) ((loadQ Y w L).2.2.2.2.2.1)) _ (REF T b (yS (va_up Z 1 (rLay (Z 2) 0 0 (Z 1))) 1 0) ((loadQ Y w L).2.2.2.2.2.1)) _ from Foc.two 1 1 rfl rfl) hK hP hD hS hA rfl hl.1 rfl (Nat.le_of_ble_eq_true rfl) ⟨Nat.zero_le _, Nat.zero_le _⟩ dX10_load_78 (fun H locs hP hD hS => ?_)
          have hP : va_P D vwCl (REF T b (yS (va_up Z 1 (rLay (Z 2) 0 0 (Z 1))) 1 0) ((loadQ Y w L).2.2.2.2.2.1)) H := hP
          have hD : va_D A (REF T b (yS (va_up Z 1 (rLay (Z 2) 0 0 (Z 1))) 1 0) ((loadQ Y w L).2.2.2.2.2.1)) := hD
          refine lv_aload_n hx hb dX10_load_81 rfl (lv_at hl 1 rfl) ?_
          refine lv_iconst (v := 0) hx hb dX10_load_82 (by decide) ?_
          refine va_put (D := D) (ci := 10) (v := .int (0)) (ty := .int) (C := RX10) (T := TX10) (N := 19) hx hb hts i10 tyX10 tyX10_ok nmX10 hown hK hP hD hS 0 rfl rfl 6 (by decide) w8 (fun _ h9 => h9) rfl (by decide +kernel) rfl rfl (Nat.le_of_ble_eq_true rfl) dX10_load_83 (fun H locs hP hD hS => ?_)
          have hP : va_P D vwCl (REF T b (yS (yS (va_up Z 1 (rLay (Z 2) 0 0 (Z 1))) 1 0) 0 0) ((loadQ Y w L).2.2.2.2.2.1)) H := hP
          have hD : va_D A (REF T b (yS (yS (va_up Z 1 (rLay (Z 2) 0 0 (Z 1))) 1 0) 0 0) ((loadQ Y w L).2.2.2.2.2.1)) := hD
          refine lv_iconst (v := 0) hx hb dX10_load_86 (by decide) ?_
          refine lv_istore_n (lv' := [(1, .int (0)), (0, .ref (b 0))]) hx hb dX10_load_87 rfl hl (by decide) rfl (fun ls hl => ?_)
          have L88 : ∀ (n9 : Nat) (k : Nat) (f6 : Nat → Int32), (2 - k) < n9 → (k ≤ 2) → (iter (fun k f => va_up f k 0) (2 - k) k f6 = iter (fun k f => va_up f k 0) 2 0 (Z 6)) → ∀ (H : Heap) (locs : List Loc) (ls : Array Slot), va_P D vwCl (REF T b (yS (yS (va_up (va_up Z 1 (rLay (Z 2) 0 0 (Z 1))) 6 f6) 1 0) 0 0) ((loadQ Y w L).2.2.2.2.2.1)) H → va_D A (REF T b (yS (yS (va_up (va_up Z 1 (rLay (Z 2) 0 0 (Z 1))) 6 f6) 1 0) 0 0) ((loadQ Y w L).2.2.2.2.2.1)) → va_S A s.heap H locs → lv_has ls 2 [(1, .int (nI k)), (0, .ref (b 0))] → W p l e ({ frames := 7, cells := 0, slots := 0, locals := 148 } : Room) s m args below meth c H locs 0 0 Q (F0 m 88 ls []) := by
            intro n9
            induction n9 with
            | zero => intro k f6 hm9; exact absurd hm9 (Nat.not_lt_zero _)
            | succ n9 ih =>
              intro k f6 hm9 hk8 hR2 H locs ls hP hD hS hl
              refine lv_iload_n hx hb dX10_load_88 rfl (lv_at hl 0 rfl) ?_
              refine lv_iconst (v := 2) hx hb dX10_load_89 (by decide) ?_
              refine lv_icmp_ge (tgt := 106) hx hb dX10_load_90 (by decide) (fun c90 => ?_) (fun c90 => ?_)
              ·
                have c90 : 2 ≤ k := (nI_leI (a := 2) (b := k) (by omega) (by omega)).mp c90
                rw [iter_done (by omega)] at hR2
                refine lv_aload_n hx hb dX10_load_106 rfl (lv_at hl 1 rfl) ?_
                refine va_get (D := D) (ci := 10) (v := .ref (b 1)) (C := RX10) (T := TX10) (N := 19) hx hb hts i10 hown hK hP 0 rfl rfl 0 (by decide) w7 (fun _ h9 => h9) rfl dX10_load_107 ?_
                refine lv_bipush (v := 6) hx hb dX10_load_110 (by decide) ?_
                refine aldI hx hb hK hP 1 0 rfl rfl (6) rfl (by omega) (by decide) dX10_load_112 ?_
                refine endI (r := if (loadQ (loadY y) w L).2.2.2.2.2.2.1 then 0 else rLay (loadZ (loadY y) w L 2) 0 0 (loadZ (loadY y) w L 1) 6) (by first | (rw [hY, if_pos c59]; done) | (rw [hY, hZ, if_neg (by rw [c59]; decide)]; rfl)) ?_
                have hE : (REF T b (yS (yS (va_up (va_up Z 1 (rLay (Z 2) 0 0 (Z 1))) 6 f6) 1 0) 0 0) ((loadQ Y w L).2.2.2.2.2.1) : va_W) = (REF T b (loadR y w L) ((loadQ (loadY y) w L).2.2.2.2.2.1)) := by first | (rw [loadR_w hY hZ c59, hY]; done) | (rw [loadR_g hY hZ c59, hY, ← hR2]; done)
                exact hret _ _ _ _ dX10_load_113 (by rw [← hE]; exact hP) (by rw [← hE]; exact hD) hS
              ·
                have c90 : ¬ 2 ≤ k := fun h9 => c90 ((nI_leI (a := 2) (b := k) (by omega) (by omega)).mpr h9)
                refine lv_aload_n hx hb dX10_load_93 rfl (lv_at hl 1 rfl) ?_
                refine va_get (D := D) (ci := 10) (v := .ref (b 6)) (C := RX10) (T := TX10) (N := 19) hx hb hts i10 hown hK hP 0 rfl rfl 5 (by decide) w9 (fun _ h9 => h9) rfl dX10_load_94 ?_
                refine lv_iload_n hx hb dX10_load_97 rfl (lv_at hl 0 rfl) ?_
                refine lv_iconst (v := 0) hx hb dX10_load_98 (by decide) ?_
                refine astZ hx hb hK hP hD hS 6 1 rfl rfl (k) rfl rfl (by omega) (by decide) dX10_load_99 (fun H locs hP hD hS => ?_)
                have hP : va_P D vwCl (REF T b (yS (yS (va_up (va_up Z 1 (rLay (Z 2) 0 0 (Z 1))) 6 (va_up f6 k 0)) 1 0) 0 0) ((loadQ Y w L).2.2.2.2.2.1)) H := hP
                have hD : va_D A (REF T b (yS (yS (va_up (va_up Z 1 (rLay (Z 2) 0 0 (Z 1))) 6 (va_up f6 k 0)) 1 0) 0 0) ((loadQ Y w L).2.2.2.2.2.1)) := hD
                refine lv_iinc (v := nI (k + 1)) (lv' := [(1, .int (nI (k + 1))), (0, .ref (b 0))]) hx hb dX10_load_100 hl (k := 0) rfl (nI_1 _) (by decide) rfl (fun ls hl => ?_)
                refine lv_goto (tgt := 88) hx hb dX10_load_103 (by decide) ?_
                exact ih (k + 1) (va_up f6 k 0) (by omega) (by omega) (by rw [iter_step (by omega)] at hR2; exact hR2) _ _ _ hP hD hS (lv_sub hl [0, 1] rfl)
          exact L88 _ 0 (Z 6) (Nat.lt_succ_self _) (by omega) (by rfl) _ _ _ hP hD hS (lv_sub hl [0, 1] rfl)
        ·
          have c59 := bI_n0.mp c59
          have c59 : (loadQ Y w L).2.2.2.2.2.2.1 = true := c59
          refine lv_aload_n hx hb dX10_load_62 rfl (lv_at hl 1 rfl) ?_
          refine lv_iconst (v := 1) hx hb dX10_load_63 (by decide) ?_
          refine wrVi (As := [.int (1)]) (rest := []) ⟨hx, hb, hml, hown, hts⟩ (c_X10_fails l D T b (yS Z 1 0) ((loadQ Y w L).2.2.2.2.2.1) 1 _) (cwV 1 hts gX10_load_X10_fails rfl rfl rfl (by decide +kernel) ⟨Nat.le_of_ble_eq_true rfl, Nat.le_of_ble_eq_true rfl⟩) (Foc.rfl _ _) hK hP hD hS hA 0 rfl rfl rfl hl.1 rfl (Nat.le_of_ble_eq_true rfl) ⟨Nat.zero_le _, Nat.zero_le _⟩ dX10_load_64 (fun H locs hP hD hS => ?_)
          have hP : va_P D vwCl (REF T b (yS (yS Z 1 0) 3 1) ((loadQ Y w L).2.2.2.2.2.1)) H := hP
          have hD : va_D A (REF T b (yS (yS Z 1 0) 3 1) ((loadQ Y w L).2.2.2.2.2.1)) := hD
          refine endI (r := if (loadQ (loadY y) w L).2.2.2.2.2.2.1 then 0 else rLay (loadZ (loadY y) w L 2) 0 0 (loadZ (loadY y) w L 1) 6) (by first | (rw [hY, if_pos c59]; done) | (rw [hY, hZ, if_neg (by rw [c59]; decide)]; rfl)) ?_
          have hE : (REF T b (yS (yS Z 1 0) 3 1) ((loadQ Y w L).2.2.2.2.2.1) : va_W) = (REF T b (loadR y w L) ((loadQ (loadY y) w L).2.2.2.2.2.1)) := by first | (rw [loadR_w hY hZ c59, hY]; done) | (rw [loadR_g hY hZ c59, hY, ← hR2]; done)
          exact hret _ _ _ _ dX10_load_67 (by rw [← hE]; exact hP) (by rw [← hE]; exact hD) hS
      ·
        have c11 : ¬ 202 ≤ k := fun h9 => c11 ((nI_leI (a := 202) (b := k) (by omega) (by omega)).mpr h9)
        refine lv_aload_n hx hb dX10_load_14 rfl (lv_at hl 1 rfl) ?_
        refine va_get (D := D) (ci := 10) (v := .ref (b 2)) (C := RX10) (T := TX10) (N := 19) hx hb hts i10 hown hK hP 0 rfl rfl 1 (by decide) w2 (fun _ h9 => h9) rfl dX10_load_15 ?_
        refine lv_iload_n hx hb dX10_load_18 rfl (lv_at hl 0 rfl) ?_
        refine lv_iconst (v := 0) hx hb dX10_load_19 (by decide) ?_
        refine astI hx hb hK hP hD hS 2 0 rfl rfl (k) rfl (by omega) (by decide) dX10_load_20 (fun H locs hP hD hS => ?_)
        have hP : va_P D vwCl (REF T b (yS (va_up y 2 (va_up f2 k 0)) 3 0) w) H := hP
        have hD : va_D A (REF T b (yS (va_up y 2 (va_up f2 k 0)) 3 0) w) := hD
        refine lv_iinc (v := nI (k + 1)) (lv' := [(1, .int (nI (k + 1))), (0, .ref (b 0))]) hx hb dX10_load_21 hl (k := 0) rfl (nI_1 _) (by decide) rfl (fun ls hl => ?_)
        refine lv_goto (tgt := 7) hx hb dX10_load_24 (by decide) ?_
        exact ih (k + 1) (va_up f2 k 0) (by omega) (by omega) (by rw [iter_step (by omega)] at hR; exact hR) _ _ _ hP hD hS (lv_sub hl [0, 1] rfl)
  exact L7 _ 0 (y 2) (Nat.lt_succ_self _) (by omega) (by rfl) _ _ _ hP hD hS (lv_sub hl [0, 1] rfl)
