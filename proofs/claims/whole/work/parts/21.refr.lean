set_option maxHeartbeats 4000000 in
set_option maxRecDepth 100000 in
theorem c_X10_readCloud (l : Launch) (D : va_G) (T : Nat → ClassId) (b : Nat → Nat) (y : Nat → Nat → Int32) (g : PSt) (C : Nat) (L : Nat) (hL : y 0 1 = nI L) (hL2 : L ≤ 600) (hat : g.1 ≤ L) (hC : y 2 4 = nI C) (hC2 : C ≤ 10) (sz : Nat) : Met l yX10_readCloud wsX10_readCloud ({ frames := 4, cells := 0, slots := 0, locals := 82 } : Room) (va_Pc [.ref (b 0)] (PS D T (PARW T b y g) sz)) (va_Qv (fun (_ : Unit) => True) (fun _ t => QS D T (va_A (PARW T b y g) sz) (PARW T b (va_up y 2 ((cloudR (y 7) L (C, y 2, g)).2.1)) ((cloudR (y 7) L (C, y 2, g)).2.2)) t) (va_A (PARW T b y g) sz)) 0 0 (va_A (PARW T b y g) sz) := by
  refine metSv (cc := cX10_readCloud) (maxL := 3) (by decide) rfl (Nat.le_of_ble_eq_true rfl) ?_
  intro p e s m args below meth c Q ls A hx hb hml hown hts hP hK hD hA hS hl hret
  have hown : s.vm.findClass RX10 = some m.cls := hown
  have hl : lv_has ls 3 [(0, .ref (b 0))] := hl
  have i10 : ∀ w ∈ wsX100, w ∈ wsX10_readCloud := by decide +kernel
  have w1 := hts (Cond.fieldLink RX10 178 "MoonComplaintWindowModel" "value" "I") (List.mem_of_getElem? (i := 1) rfl)
  have w2 := hts (Cond.fieldLink RX10 185 "MoonComplaintWindowModel" "kind" "I") (List.mem_of_getElem? (i := 2) rfl)
  have w3 := hts (Cond.fieldLink RX10 13 "MoonComplaintWindowModel" "draft" "[I") (List.mem_of_getElem? (i := 3) rfl)
  refine lv_aload_n hx hb dX10_readCloud_0 rfl (lv_at hl 0 rfl) ?_
  refine va_get (D := D) (ci := 10) (v := .int (g.2.2.2.1)) (C := RX10) (T := TX10) (N := 19) hx hb hts i10 hown hK hP 0 rfl rfl 14 (by decide) w1 (fun _ h9 => h9) rfl dX10_readCloud_1 ?_
  refine lv_istore_n (lv' := [(1, .int (g.2.2.2.1)), (0, .ref (b 0))]) hx hb dX10_readCloud_4 rfl hl (by decide) rfl (fun ls hl => ?_)
  have J5 : W p l e ({ frames := 4, cells := 0, slots := 0, locals := 82 } : Room) s m args below meth c s.heap [] 0 0 Q (F0 m 35 ls [.int (bI (cloudB (C, y 2, g)))]) := by
    refine lv_istore_n (lv' := [(2, .int (bI (cloudB (C, y 2, g)))), (1, .int (g.2.2.2.1)), (0, .ref (b 0))]) hx hb dX10_readCloud_35 rfl hl (by decide) rfl (fun ls hl => ?_)
    refine lv_aload_n hx hb dX10_readCloud_36 rfl (lv_at hl 2 rfl) ?_
    refine lv_iload_n hx hb dX10_readCloud_37 rfl (lv_at hl 0 rfl) ?_
    refine wrVi (As := [.int (bI (cloudB (C, y 2, g)))]) (rest := []) ⟨hx, hb, hml, hown, hts⟩ (c_X10_takes l D T b y g ((cloudB (C, y 2, g))) L hL hL2 hat _) (cwV 1 hts gX10_readCloud_X10_takes rfl rfl rfl (by decide +kernel) ⟨Nat.le_of_ble_eq_true rfl, Nat.le_of_ble_eq_true rfl⟩) (Foc.rfl _ _) hK hP hD hS hA 0 rfl rfl rfl hl.1 rfl (Nat.le_of_ble_eq_true rfl) ⟨Nat.zero_le _, Nat.zero_le _⟩ dX10_readCloud_38 (fun H locs hP hD hS => ?_)
    have hP : va_P D vwCl (PARW T b y (takesP (y 7) L ((cloudB (C, y 2, g))) g)) H := hP
    have hD : va_D A (PARW T b y (takesP (y 7) L ((cloudB (C, y 2, g))) g)) := hD
    have hP : va_P D vwCl (PARW T b y (takesP (y 7) L (cloudB (C, y 2, g)) g)) H := hP
    have hD : va_D A (PARW T b y (takesP (y 7) L (cloudB (C, y 2, g)) g)) := hD
    refine lv_if_eq (tgt := 52) hx hb dX10_readCloud_41 (by decide) (fun c41 => ?_) (fun c41 => ?_)
    ·
      have c41 := bI_0.mp c41
      have c41 : (cloudB (C, y 2, g) && !g.2.2.2.2.2.1) = false := c41
      have hE : (PARW T b y (takesP (y 7) L (cloudB (C, y 2, g)) g) : va_W) = (PARW T b (va_up y 2 ((cloudR (y 7) L (C, y 2, g)).2.1)) ((cloudR (y 7) L (C, y 2, g)).2.2)) := by unfold cloudR; dsimp only; rw [c41]; rfl
      exact hret _ _ _ _ dX10_readCloud_52 (by rw [← hE]; exact hP) (by rw [← hE]; exact hD) hS
    ·
      have c41 := bI_n0.mp c41
      have c41 : (cloudB (C, y 2, g) && !g.2.2.2.2.2.1) = true := c41
      refine lv_aload_n hx hb dX10_readCloud_44 rfl (lv_at hl 2 rfl) ?_
      refine va_get (D := D) (ci := 10) (v := .ref (b 2)) (C := RX10) (T := TX10) (N := 19) hx hb hts i10 hown hK hP 0 rfl rfl 1 (by decide) w3 (fun _ h9 => h9) rfl dX10_readCloud_45 ?_
      refine lv_iload_n hx hb dX10_readCloud_48 rfl (lv_at hl 1 rfl) ?_
      refine wrSv (As := [.ref (b 2), .int (g.2.2.2.1)]) (rest := []) ⟨hx, hb, hml, hown, hts⟩ (c_X10_addsCloud l D T (b 2) (y 2) g.2.2.2.1 C hC (by have := c41; simp [cloudB] at this; omega) _) (va_cwS 2 hts gX10_readCloud_X10_addsCloud rfl rfl rfl (by decide +kernel) ⟨Nat.le_of_ble_eq_true rfl, Nat.le_of_ble_eq_true rfl⟩) (show Foc (PARW T b y (takesP (y 7) L (cloudB (C, y 2, g)) g)) _ (PARW T b (va_up y 2 (rAddsCloud (y 2) C g.2.2.2.1)) (takesP (y 7) L (cloudB (C, y 2, g)) g)) _ from Foc.one 2 rfl) hK hP hD hS hA rfl hl.1 rfl (Nat.le_of_ble_eq_true rfl) ⟨Nat.zero_le _, Nat.zero_le _⟩ dX10_readCloud_49 (fun H locs hP hD hS => ?_)
      have hP : va_P D vwCl (PARW T b (va_up y 2 (rAddsCloud (y 2) C g.2.2.2.1)) (takesP (y 7) L (cloudB (C, y 2, g)) g)) H := hP
      have hD : va_D A (PARW T b (va_up y 2 (rAddsCloud (y 2) C g.2.2.2.1)) (takesP (y 7) L (cloudB (C, y 2, g)) g)) := hD
      have hE : (PARW T b (va_up y 2 (rAddsCloud (y 2) C g.2.2.2.1)) (takesP (y 7) L (cloudB (C, y 2, g)) g) : va_W) = (PARW T b (va_up y 2 ((cloudR (y 7) L (C, y 2, g)).2.1)) ((cloudR (y 7) L (C, y 2, g)).2.2)) := by unfold cloudR; dsimp only; rw [c41]; rfl
      exact hret _ _ _ _ dX10_readCloud_52 (by rw [← hE]; exact hP) (by rw [← hE]; exact hD) hS
  refine lv_aload_n hx hb dX10_readCloud_5 rfl (lv_at hl 1 rfl) ?_
  refine va_get (D := D) (ci := 10) (v := .int (g.2.2.1)) (C := RX10) (T := TX10) (N := 19) hx hb hts i10 hown hK hP 0 rfl rfl 13 (by decide) w2 (fun _ h9 => h9) rfl dX10_readCloud_6 ?_
  refine lv_iconst (v := 2) hx hb dX10_readCloud_9 (by decide) ?_
  refine lv_icmp_ne (tgt := 34) hx hb dX10_readCloud_10 (by decide) (fun c10 => ?_) (fun c10 => ?_)
  ·
    refine lv_iconst (v := 0) hx hb dX10_readCloud_34 (by decide) ?_
    refine endI (r := bI (cloudB (C, y 2, g))) (by (first | have c10x := Int32.not_lt.mp c10 | have c10x := Int32.not_le.mp c10 | have c10x := Int32.not_lt.mpr c10 | have c10x := Int32.not_le.mpr c10 | have c10x := c10); simp [bI, cloudB, c10, c10x]; try omega) ?_
    exact J5
  ·
    refine lv_iload_n hx hb dX10_readCloud_13 rfl (lv_at hl 0 rfl) ?_
    refine lv_bipush (v := 9) hx hb dX10_readCloud_14 (by decide) ?_
    refine lv_icmp_gt (tgt := 34) hx hb dX10_readCloud_16 (by decide) (fun c16 => ?_) (fun c16 => ?_)
    ·
      refine lv_iconst (v := 0) hx hb dX10_readCloud_34 (by decide) ?_
      refine endI (r := bI (cloudB (C, y 2, g))) (by (first | have c10x := Int32.not_lt.mp c10 | have c10x := Int32.not_le.mp c10 | have c10x := Int32.not_lt.mpr c10 | have c10x := Int32.not_le.mpr c10 | have c10x := c10); (first | have c16x := Int32.not_lt.mp c16 | have c16x := Int32.not_le.mp c16 | have c16x := Int32.not_lt.mpr c16 | have c16x := Int32.not_le.mpr c16 | have c16x := c16); simp [bI, cloudB, c10, c16, c10x, c16x]; try omega) ?_
      exact J5
    ·
      refine lv_aload_n hx hb dX10_readCloud_19 rfl (lv_at hl 1 rfl) ?_
      refine va_get (D := D) (ci := 10) (v := .ref (b 2)) (C := RX10) (T := TX10) (N := 19) hx hb hts i10 hown hK hP 0 rfl rfl 1 (by decide) w3 (fun _ h9 => h9) rfl dX10_readCloud_20 ?_
      refine lv_iconst (v := 4) hx hb dX10_readCloud_23 (by decide) ?_
      refine aldI hx hb hK hP 2 0 rfl rfl (4) rfl (by omega) (by decide) dX10_readCloud_24 ?_
      refine endI (r := y 2 4) rfl ?_
      refine endI (r := nI C) (hC) ?_
      refine lv_bipush (v := 10) hx hb dX10_readCloud_25 (by decide) ?_
      refine lv_icmp_ge (tgt := 34) hx hb dX10_readCloud_27 (by decide) (fun c27 => ?_) (fun c27 => ?_)
      ·
        have c27 : 10 ≤ C := (nI_leI (a := 10) (b := C) (by omega) (by omega)).mp c27
        refine lv_iconst (v := 0) hx hb dX10_readCloud_34 (by decide) ?_
        refine endI (r := bI (cloudB (C, y 2, g))) (by (first | have c10x := Int32.not_lt.mp c10 | have c10x := Int32.not_le.mp c10 | have c10x := Int32.not_lt.mpr c10 | have c10x := Int32.not_le.mpr c10 | have c10x := c10); (first | have c16x := Int32.not_lt.mp c16 | have c16x := Int32.not_le.mp c16 | have c16x := Int32.not_lt.mpr c16 | have c16x := Int32.not_le.mpr c16 | have c16x := c16); (first | have c27x := Int32.not_lt.mp c27 | have c27x := Int32.not_le.mp c27 | have c27x := Int32.not_lt.mpr c27 | have c27x := Int32.not_le.mpr c27 | have c27x := c27); simp [bI, cloudB, c10, c16, c27, c10x, c16x, c27x]; try omega) ?_
        exact J5
      ·
        have c27 : ¬ 10 ≤ C := fun h9 => c27 ((nI_leI (a := 10) (b := C) (by omega) (by omega)).mpr h9)
        refine lv_iconst (v := 1) hx hb dX10_readCloud_30 (by decide) ?_
        refine lv_goto (tgt := 35) hx hb dX10_readCloud_31 (by decide) ?_
        refine endI (r := bI (cloudB (C, y 2, g))) (by (first | have c10x := Int32.not_lt.mp c10 | have c10x := Int32.not_le.mp c10 | have c10x := Int32.not_lt.mpr c10 | have c10x := Int32.not_le.mpr c10 | have c10x := c10); (first | have c16x := Int32.not_lt.mp c16 | have c16x := Int32.not_le.mp c16 | have c16x := Int32.not_lt.mpr c16 | have c16x := Int32.not_le.mpr c16 | have c16x := c16); (first | have c27x := Int32.not_lt.mp c27 | have c27x := Int32.not_le.mp c27 | have c27x := Int32.not_lt.mpr c27 | have c27x := Int32.not_le.mpr c27 | have c27x := c27); simp [bI, cloudB, c10, c16, c27, c10x, c16x, c27x]; try omega) ?_
        exact J5

set_option maxHeartbeats 4000000 in
set_option maxRecDepth 100000 in
theorem c_X10_readClerk (l : Launch) (D : va_G) (T : Nat → ClassId) (b : Nat → Nat) (y : Nat → Nat → Int32) (g : PSt) (C : Nat) (L : Nat) (hL : y 0 1 = nI L) (hL2 : L ≤ 600) (hat : g.1 ≤ L) (hC : y 2 5 = nI C) (hC2 : C ≤ 5) (sz : Nat) : Met l yX10_readClerk wsX10_readClerk ({ frames := 5, cells := 0, slots := 0, locals := 105 } : Room) (va_Pc [.ref (b 0)] (PS D T (PARW T b y g) sz)) (va_Qv (fun (_ : Unit) => True) (fun _ t => QS D T (va_A (PARW T b y g) sz) (PARW T b (va_up y 2 ((clerkR (y 7) L (C, y 2, g)).2.1)) ((clerkR (y 7) L (C, y 2, g)).2.2)) t) (va_A (PARW T b y g) sz)) 0 0 (va_A (PARW T b y g) sz) := by
  refine metSv (cc := cX10_readClerk) (maxL := 3) (by decide) rfl (Nat.le_of_ble_eq_true rfl) ?_
  intro p e s m args below meth c Q ls A hx hb hml hown hts hP hK hD hA hS hl hret
  have hown : s.vm.findClass RX10 = some m.cls := hown
  have hl : lv_has ls 3 [(0, .ref (b 0))] := hl
  have i10 : ∀ w ∈ wsX100, w ∈ wsX10_readClerk := by decide +kernel
  have w1 := hts (Cond.fieldLink RX10 13 "MoonComplaintWindowModel" "draft" "[I") (List.mem_of_getElem? (i := 1) rfl)
  have w2 := hts (Cond.fieldLink RX10 185 "MoonComplaintWindowModel" "kind" "I") (List.mem_of_getElem? (i := 2) rfl)
  have h1 : (clerk1 (y 7) L (C, y 2, g)).1 ≤ L := takesP_le hat
  have h2 : (clerk2 (y 7) L (C, y 2, g)).1 ≤ L := numS_le h1
  have h3 : (clerk3 (y 7) L (C, y 2, g)).1 ≤ L := numS_le h2
  refine lv_aload_n hx hb dX10_readClerk_0 rfl (lv_at hl 0 rfl) ?_
  have J1 : W p l e ({ frames := 5, cells := 0, slots := 0, locals := 105 } : Room) s m args below meth c s.heap [] 0 0 Q (F0 m 16 ls [.int (bI (decide (C < 5))), .ref (b 0)]) := by
    refine wrVi (As := [.int (bI (decide (C < 5)))]) (rest := []) ⟨hx, hb, hml, hown, hts⟩ (c_X10_takes l D T b y g ((decide (C < 5))) L hL hL2 hat _) (cwV 1 hts gX10_readClerk_X10_takes rfl rfl rfl (by decide +kernel) ⟨Nat.le_of_ble_eq_true rfl, Nat.le_of_ble_eq_true rfl⟩) (Foc.rfl _ _) hK hP hD hS hA 0 rfl rfl rfl hl.1 rfl (Nat.le_of_ble_eq_true rfl) ⟨Nat.zero_le _, Nat.zero_le _⟩ dX10_readClerk_16 (fun H locs hP hD hS => ?_)
    have hP : va_P D vwCl (PARW T b y (takesP (y 7) L ((decide (C < 5))) g)) H := hP
    have hD : va_D A (PARW T b y (takesP (y 7) L ((decide (C < 5))) g)) := hD
    have hP : va_P D vwCl (PARW T b y (clerk1 (y 7) L (C, y 2, g))) H := hP
    have hD : va_D A (PARW T b y (clerk1 (y 7) L (C, y 2, g))) := hD
    refine lv_pop hx hb dX10_readClerk_19 rfl ?_
    refine lv_aload_n hx hb dX10_readClerk_20 rfl (lv_at hl 0 rfl) ?_
    refine lv_iconst (v := 1) hx hb dX10_readClerk_21 (by decide) ?_
    refine lv_bipush (v := 9) hx hb dX10_readClerk_22 (by decide) ?_
    refine wrVi (As := [.int (1), .int (9)]) (rest := []) ⟨hx, hb, hml, hown, hts⟩ (c_X10_takesNumber l D T b y (clerk1 (y 7) L (C, y 2, g)) 1 9 L hL hL2 h1 _) (cwV 2 hts gX10_readClerk_X10_takesNumber rfl rfl rfl (by decide +kernel) ⟨Nat.le_of_ble_eq_true rfl, Nat.le_of_ble_eq_true rfl⟩) (Foc.rfl _ _) hK hP hD hS hA 0 rfl rfl rfl hl.1 rfl (Nat.le_of_ble_eq_true rfl) ⟨Nat.zero_le _, Nat.zero_le _⟩ dX10_readClerk_24 (fun H locs hP hD hS => ?_)
    have hP : va_P D vwCl (PARW T b y (numS (y 7) L 1 9 (clerk1 (y 7) L (C, y 2, g)))) H := hP
    have hD : va_D A (PARW T b y (numS (y 7) L 1 9 (clerk1 (y 7) L (C, y 2, g)))) := hD
    have hP : va_P D vwCl (PARW T b y (clerk2 (y 7) L (C, y 2, g))) H := hP
    have hD : va_D A (PARW T b y (clerk2 (y 7) L (C, y 2, g))) := hD
    refine lv_istore_n (lv' := [(1, .int (numP 1 9 (clerk1 (y 7) L (C, y 2, g)))), (0, .ref (b 0))]) hx hb dX10_readClerk_27 rfl hl (by decide) rfl (fun ls hl => ?_)
    refine lv_aload_n hx hb dX10_readClerk_28 rfl (lv_at hl 1 rfl) ?_
    refine lv_iconst (v := 0) hx hb dX10_readClerk_29 (by decide) ?_
    refine lv_bipush (v := 99) hx hb dX10_readClerk_30 (by decide) ?_
    refine wrVi (As := [.int (0), .int (99)]) (rest := []) ⟨hx, hb, hml, hown, hts⟩ (c_X10_takesNumber l D T b y (clerk2 (y 7) L (C, y 2, g)) 0 99 L hL hL2 h2 _) (cwV 2 hts gX10_readClerk_X10_takesNumber rfl rfl rfl (by decide +kernel) ⟨Nat.le_of_ble_eq_true rfl, Nat.le_of_ble_eq_true rfl⟩) (Foc.rfl _ _) hK hP hD hS hA 0 rfl rfl rfl hl.1 rfl (Nat.le_of_ble_eq_true rfl) ⟨Nat.zero_le _, Nat.zero_le _⟩ dX10_readClerk_32 (fun H locs hP hD hS => ?_)
    have hP : va_P D vwCl (PARW T b y (numS (y 7) L 0 99 (clerk2 (y 7) L (C, y 2, g)))) H := hP
    have hD : va_D A (PARW T b y (numS (y 7) L 0 99 (clerk2 (y 7) L (C, y 2, g)))) := hD
    have hP : va_P D vwCl (PARW T b y (clerk3 (y 7) L (C, y 2, g))) H := hP
    have hD : va_D A (PARW T b y (clerk3 (y 7) L (C, y 2, g))) := hD
    refine lv_istore_n (lv' := [(2, .int (numP 0 99 (clerk2 (y 7) L (C, y 2, g)))), (1, .int (numP 1 9 (clerk1 (y 7) L (C, y 2, g)))), (0, .ref (b 0))]) hx hb dX10_readClerk_35 rfl hl (by decide) rfl (fun ls hl => ?_)
    refine lv_aload_n hx hb dX10_readClerk_36 rfl (lv_at hl 2 rfl) ?_
    have J37 : W p l e ({ frames := 5, cells := 0, slots := 0, locals := 105 } : Room) s m args below meth c H locs 0 0 Q (F0 m 50 ls [.int (bI (kindB (clerk3 (y 7) L (C, y 2, g)) 3)), .ref (b 0)]) := by
      refine wrVi (As := [.int (bI (kindB (clerk3 (y 7) L (C, y 2, g)) 3))]) (rest := []) ⟨hx, hb, hml, hown, hts⟩ (c_X10_takes l D T b y (clerk3 (y 7) L (C, y 2, g)) ((kindB (clerk3 (y 7) L (C, y 2, g)) 3)) L hL hL2 h3 _) (cwV 1 hts gX10_readClerk_X10_takes rfl rfl rfl (by decide +kernel) ⟨Nat.le_of_ble_eq_true rfl, Nat.le_of_ble_eq_true rfl⟩) (Foc.rfl _ _) hK hP hD hS hA 0 rfl rfl rfl hl.1 rfl (Nat.le_of_ble_eq_true rfl) ⟨Nat.zero_le _, Nat.zero_le _⟩ dX10_readClerk_50 (fun H locs hP hD hS => ?_)
      have hP : va_P D vwCl (PARW T b y (takesP (y 7) L ((kindB (clerk3 (y 7) L (C, y 2, g)) 3)) (clerk3 (y 7) L (C, y 2, g)))) H := hP
      have hD : va_D A (PARW T b y (takesP (y 7) L ((kindB (clerk3 (y 7) L (C, y 2, g)) 3)) (clerk3 (y 7) L (C, y 2, g)))) := hD
      have hP : va_P D vwCl (PARW T b y (tkK (y 7) L 3 (clerk3 (y 7) L (C, y 2, g)))) H := hP
      have hD : va_D A (PARW T b y (tkK (y 7) L 3 (clerk3 (y 7) L (C, y 2, g)))) := hD
      refine lv_if_eq (tgt := 66) hx hb dX10_readClerk_53 (by decide) (fun c53 => ?_) (fun c53 => ?_)
      ·
        have c53 := bI_0.mp c53
        have c53 : (kindB (clerk3 (y 7) L (C, y 2, g)) 3 && !(clerk3 (y 7) L (C, y 2, g)).2.2.2.2.2.1) = false := c53
        have hE : (PARW T b y (tkK (y 7) L 3 (clerk3 (y 7) L (C, y 2, g))) : va_W) = (PARW T b (va_up y 2 ((clerkR (y 7) L (C, y 2, g)).2.1)) ((clerkR (y 7) L (C, y 2, g)).2.2)) := by unfold clerkR; rw [c53]; rfl
        exact hret _ _ _ _ dX10_readClerk_66 (by rw [← hE]; exact hP) (by rw [← hE]; exact hD) hS
      ·
        have c53 := bI_n0.mp c53
        have c53 : (kindB (clerk3 (y 7) L (C, y 2, g)) 3 && !(clerk3 (y 7) L (C, y 2, g)).2.2.2.2.2.1) = true := c53
        have g50 := clerk_lt c53
        refine lv_aload_n hx hb dX10_readClerk_56 rfl (lv_at hl 2 rfl) ?_
        refine va_get (D := D) (ci := 10) (v := .ref (b 2)) (C := RX10) (T := TX10) (N := 19) hx hb hts i10 hown hK hP 0 rfl rfl 1 (by decide) w1 (fun _ h9 => h9) rfl dX10_readClerk_57 ?_
        refine lv_iload_n hx hb dX10_readClerk_60 rfl (lv_at hl 1 rfl) ?_
        refine lv_iload_n hx hb dX10_readClerk_61 rfl (lv_at hl 0 rfl) ?_
        refine wrSi (As := [.ref (b 2), .int (numP 1 9 (clerk1 (y 7) L (C, y 2, g))), .int (numP 0 99 (clerk2 (y 7) L (C, y 2, g)))]) (rest := []) ⟨hx, hb, hml, hown, hts⟩ (c_X10_addsClerk l D T (b 2) (y 2) (numP 1 9 (clerk1 (y 7) L (C, y 2, g))) (numP 0 99 (clerk2 (y 7) L (C, y 2, g))) C hC (by have := g50; omega) _) (va_cwS 3 hts gX10_readClerk_X10_addsClerk rfl rfl rfl (by decide +kernel) ⟨Nat.le_of_ble_eq_true rfl, Nat.le_of_ble_eq_true rfl⟩) (show Foc (PARW T b y (tkK (y 7) L 3 (clerk3 (y 7) L (C, y 2, g)))) _ (PARW T b (va_up y 2 (rAddsClerk (y 2) C (numP 1 9 (clerk1 (y 7) L (C, y 2, g))) (numP 0 99 (clerk2 (y 7) L (C, y 2, g))))) (tkK (y 7) L 3 (clerk3 (y 7) L (C, y 2, g)))) _ from Foc.one 2 rfl) hK hP hD hS hA rfl hl.1 rfl (Nat.le_of_ble_eq_true rfl) ⟨Nat.zero_le _, Nat.zero_le _⟩ dX10_readClerk_62 (fun H locs hP hD hS => ?_)
        have hP : va_P D vwCl (PARW T b (va_up y 2 (rAddsClerk (y 2) C (numP 1 9 (clerk1 (y 7) L (C, y 2, g))) (numP 0 99 (clerk2 (y 7) L (C, y 2, g))))) (tkK (y 7) L 3 (clerk3 (y 7) L (C, y 2, g)))) H := hP
        have hD : va_D A (PARW T b (va_up y 2 (rAddsClerk (y 2) C (numP 1 9 (clerk1 (y 7) L (C, y 2, g))) (numP 0 99 (clerk2 (y 7) L (C, y 2, g))))) (tkK (y 7) L 3 (clerk3 (y 7) L (C, y 2, g)))) := hD
        refine lv_pop hx hb dX10_readClerk_65 rfl ?_
        have hE : (PARW T b (va_up y 2 (rAddsClerk (y 2) C (numP 1 9 (clerk1 (y 7) L (C, y 2, g))) (numP 0 99 (clerk2 (y 7) L (C, y 2, g))))) (tkK (y 7) L 3 (clerk3 (y 7) L (C, y 2, g))) : va_W) = (PARW T b (va_up y 2 ((clerkR (y 7) L (C, y 2, g)).2.1)) ((clerkR (y 7) L (C, y 2, g)).2.2)) := by unfold clerkR; rw [c53]; rfl
        exact hret _ _ _ _ dX10_readClerk_66 (by rw [← hE]; exact hP) (by rw [← hE]; exact hD) hS
    refine lv_aload_n hx hb dX10_readClerk_37 rfl (lv_at hl 2 rfl) ?_
    refine va_get (D := D) (ci := 10) (v := .int ((clerk3 (y 7) L (C, y 2, g)).2.2.1)) (C := RX10) (T := TX10) (N := 19) hx hb hts i10 hown hK hP 0 rfl rfl 13 (by decide) w2 (fun _ h9 => h9) rfl dX10_readClerk_38 ?_
    refine lv_iconst (v := 3) hx hb dX10_readClerk_41 (by decide) ?_
    refine lv_icmp_ne (tgt := 49) hx hb dX10_readClerk_42 (by decide) (fun c42 => ?_) (fun c42 => ?_)
    ·
      refine lv_iconst (v := 0) hx hb dX10_readClerk_49 (by decide) ?_
      refine endI (r := bI (kindB (clerk3 (y 7) L (C, y 2, g)) 3)) (by simp [bI, kindB, c42]) ?_
      exact J37
    ·
      refine lv_iconst (v := 1) hx hb dX10_readClerk_45 (by decide) ?_
      refine lv_goto (tgt := 50) hx hb dX10_readClerk_46 (by decide) ?_
      refine endI (r := bI (kindB (clerk3 (y 7) L (C, y 2, g)) 3)) (by simp [bI, kindB, c42]) ?_
      exact J37
  refine lv_aload_n hx hb dX10_readClerk_1 rfl (lv_at hl 0 rfl) ?_
  refine va_get (D := D) (ci := 10) (v := .ref (b 2)) (C := RX10) (T := TX10) (N := 19) hx hb hts i10 hown hK hP 0 rfl rfl 1 (by decide) w1 (fun _ h9 => h9) rfl dX10_readClerk_2 ?_
  refine lv_iconst (v := 5) hx hb dX10_readClerk_5 (by decide) ?_
  refine aldI hx hb hK hP 2 0 rfl rfl (5) rfl (by omega) (by decide) dX10_readClerk_6 ?_
  refine endI (r := y 2 5) rfl ?_
  refine endI (r := nI C) (hC) ?_
  refine lv_iconst (v := 5) hx hb dX10_readClerk_7 (by decide) ?_
  refine lv_icmp_ge (tgt := 15) hx hb dX10_readClerk_8 (by decide) (fun c8 => ?_) (fun c8 => ?_)
  ·
    have c8 : 5 ≤ C := (nI_leI (a := 5) (b := C) (by omega) (by omega)).mp c8
    refine lv_iconst (v := 0) hx hb dX10_readClerk_15 (by decide) ?_
    refine endI (r := bI (decide (C < 5))) (by simp [bI]; omega) ?_
    exact J1
  ·
    have c8 : ¬ 5 ≤ C := fun h9 => c8 ((nI_leI (a := 5) (b := C) (by omega) (by omega)).mpr h9)
    refine lv_iconst (v := 1) hx hb dX10_readClerk_11 (by decide) ?_
    refine lv_goto (tgt := 16) hx hb dX10_readClerk_12 (by decide) ?_
    refine endI (r := bI (decide (C < 5))) (by simp [bI]; omega) ?_
    exact J1

set_option maxHeartbeats 4000000 in
set_option maxRecDepth 100000 in
theorem c_X10_readComplaint (l : Launch) (D : va_G) (T : Nat → ClassId) (b : Nat → Nat) (y : Nat → Nat → Int32) (g : PSt) (C : Nat) (L : Nat) (hL : y 0 1 = nI L) (hL2 : L ≤ 600) (hat : g.1 ≤ L) (hC : y 2 6 = nI C) (hC2 : C ≤ 24) (sz : Nat) : Met l yX10_readComplaint wsX10_readComplaint ({ frames := 5, cells := 0, slots := 0, locals := 105 } : Room) (va_Pc [.ref (b 0)] (PS D T (PARW T b y g) sz)) (va_Qv (fun (_ : Unit) => True) (fun _ t => QS D T (va_A (PARW T b y g) sz) (PARW T b (va_up y 2 ((compR (y 7) L (C, y 2, g)).2.1)) ((compR (y 7) L (C, y 2, g)).2.2)) t) (va_A (PARW T b y g) sz)) 0 0 (va_A (PARW T b y g) sz) := by
  refine metSv (cc := cX10_readComplaint) (maxL := 4) (by decide) rfl (Nat.le_of_ble_eq_true rfl) ?_
  intro p e s m args below meth c Q ls A hx hb hml hown hts hP hK hD hA hS hl hret
  have hown : s.vm.findClass RX10 = some m.cls := hown
  have hl : lv_has ls 4 [(0, .ref (b 0))] := hl
  have i10 : ∀ w ∈ wsX100, w ∈ wsX10_readComplaint := by decide +kernel
  have w1 := hts (Cond.fieldLink RX10 13 "MoonComplaintWindowModel" "draft" "[I") (List.mem_of_getElem? (i := 1) rfl)
  have w2 := hts (Cond.fieldLink RX10 185 "MoonComplaintWindowModel" "kind" "I") (List.mem_of_getElem? (i := 2) rfl)
  have h1 : (comp1 (y 7) L (C, y 2, g)).1 ≤ L := takesP_le hat
  have h2 : (comp2 (y 7) L (C, y 2, g)).1 ≤ L := numS_le h1
  have h3 : (comp3 (y 7) L (C, y 2, g)).1 ≤ L := takesP_le h2
  have h4 : (comp4 (y 7) L (C, y 2, g)).1 ≤ L := numS_le h3
  refine lv_aload_n hx hb dX10_readComplaint_0 rfl (lv_at hl 0 rfl) ?_
  have J1 : W p l e ({ frames := 5, cells := 0, slots := 0, locals := 105 } : Room) s m args below meth c s.heap [] 0 0 Q (F0 m 18 ls [.int (bI (decide (C < 24))), .ref (b 0)]) := by
    refine wrVi (As := [.int (bI (decide (C < 24)))]) (rest := []) ⟨hx, hb, hml, hown, hts⟩ (c_X10_takes l D T b y g ((decide (C < 24))) L hL hL2 hat _) (cwV 1 hts gX10_readComplaint_X10_takes rfl rfl rfl (by decide +kernel) ⟨Nat.le_of_ble_eq_true rfl, Nat.le_of_ble_eq_true rfl⟩) (Foc.rfl _ _) hK hP hD hS hA 0 rfl rfl rfl hl.1 rfl (Nat.le_of_ble_eq_true rfl) ⟨Nat.zero_le _, Nat.zero_le _⟩ dX10_readComplaint_18 (fun H locs hP hD hS => ?_)
    have hP : va_P D vwCl (PARW T b y (takesP (y 7) L ((decide (C < 24))) g)) H := hP
    have hD : va_D A (PARW T b y (takesP (y 7) L ((decide (C < 24))) g)) := hD
    have hP : va_P D vwCl (PARW T b y (comp1 (y 7) L (C, y 2, g))) H := hP
    have hD : va_D A (PARW T b y (comp1 (y 7) L (C, y 2, g))) := hD
    refine lv_pop hx hb dX10_readComplaint_21 rfl ?_
    refine lv_aload_n hx hb dX10_readComplaint_22 rfl (lv_at hl 0 rfl) ?_
    refine lv_iconst (v := 0) hx hb dX10_readComplaint_23 (by decide) ?_
    refine lv_bipush (v := 99) hx hb dX10_readComplaint_24 (by decide) ?_
    refine wrVi (As := [.int (0), .int (99)]) (rest := []) ⟨hx, hb, hml, hown, hts⟩ (c_X10_takesNumber l D T b y (comp1 (y 7) L (C, y 2, g)) 0 99 L hL hL2 h1 _) (cwV 2 hts gX10_readComplaint_X10_takesNumber rfl rfl rfl (by decide +kernel) ⟨Nat.le_of_ble_eq_true rfl, Nat.le_of_ble_eq_true rfl⟩) (Foc.rfl _ _) hK hP hD hS hA 0 rfl rfl rfl hl.1 rfl (Nat.le_of_ble_eq_true rfl) ⟨Nat.zero_le _, Nat.zero_le _⟩ dX10_readComplaint_26 (fun H locs hP hD hS => ?_)
    have hP : va_P D vwCl (PARW T b y (numS (y 7) L 0 99 (comp1 (y 7) L (C, y 2, g)))) H := hP
    have hD : va_D A (PARW T b y (numS (y 7) L 0 99 (comp1 (y 7) L (C, y 2, g)))) := hD
    have hP : va_P D vwCl (PARW T b y (comp2 (y 7) L (C, y 2, g))) H := hP
    have hD : va_D A (PARW T b y (comp2 (y 7) L (C, y 2, g))) := hD
    refine lv_istore_n (lv' := [(1, .int (numP 0 99 (comp1 (y 7) L (C, y 2, g)))), (0, .ref (b 0))]) hx hb dX10_readComplaint_29 rfl hl (by decide) rfl (fun ls hl => ?_)
    refine lv_aload_n hx hb dX10_readComplaint_30 rfl (lv_at hl 1 rfl) ?_
    refine rdV (As := []) (rest := []) ⟨hx, hb, hml, hown, hts⟩ (c_X10_sortHere l D T b y (comp2 (y 7) L (C, y 2, g)) ) (cwV 0 hts gX10_readComplaint_X10_sortHere rfl rfl rfl (by decide +kernel) ⟨Nat.le_of_ble_eq_true rfl, Nat.le_of_ble_eq_true rfl⟩) hK hP 0 rfl rfl rfl hl.1 rfl (Nat.le_of_ble_eq_true rfl) ⟨Nat.zero_le _, Nat.zero_le _⟩ dX10_readComplaint_31 ?_
    refine lv_istore_n (lv' := [(2, .int (sortP (comp2 (y 7) L (C, y 2, g)))), (1, .int (numP 0 99 (comp1 (y 7) L (C, y 2, g)))), (0, .ref (b 0))]) hx hb dX10_readComplaint_34 rfl hl (by decide) rfl (fun ls hl => ?_)
    refine lv_aload_n hx hb dX10_readComplaint_35 rfl (lv_at hl 2 rfl) ?_
    have J36 : W p l e ({ frames := 5, cells := 0, slots := 0, locals := 105 } : Room) s m args below meth c H locs 0 0 Q (F0 m 57 ls [.int (bI (compB (y 7) L (C, y 2, g))), .ref (b 0)]) := by
      refine wrVi (As := [.int (bI (compB (y 7) L (C, y 2, g)))]) (rest := []) ⟨hx, hb, hml, hown, hts⟩ (c_X10_takes l D T b y (comp2 (y 7) L (C, y 2, g)) ((compB (y 7) L (C, y 2, g))) L hL hL2 h2 _) (cwV 1 hts gX10_readComplaint_X10_takes rfl rfl rfl (by decide +kernel) ⟨Nat.le_of_ble_eq_true rfl, Nat.le_of_ble_eq_true rfl⟩) (Foc.rfl _ _) hK hP hD hS hA 0 rfl rfl rfl hl.1 rfl (Nat.le_of_ble_eq_true rfl) ⟨Nat.zero_le _, Nat.zero_le _⟩ dX10_readComplaint_57 (fun H locs hP hD hS => ?_)
      have hP : va_P D vwCl (PARW T b y (takesP (y 7) L ((compB (y 7) L (C, y 2, g))) (comp2 (y 7) L (C, y 2, g)))) H := hP
      have hD : va_D A (PARW T b y (takesP (y 7) L ((compB (y 7) L (C, y 2, g))) (comp2 (y 7) L (C, y 2, g)))) := hD
      have hP : va_P D vwCl (PARW T b y (comp3 (y 7) L (C, y 2, g))) H := hP
      have hD : va_D A (PARW T b y (comp3 (y 7) L (C, y 2, g))) := hD
      refine lv_pop hx hb dX10_readComplaint_60 rfl ?_
      refine lv_aload_n hx hb dX10_readComplaint_61 rfl (lv_at hl 2 rfl) ?_
      refine lv_iconst (v := 1) hx hb dX10_readComplaint_62 (by decide) ?_
      refine lv_bipush (v := 9) hx hb dX10_readComplaint_63 (by decide) ?_
      refine wrVi (As := [.int (1), .int (9)]) (rest := []) ⟨hx, hb, hml, hown, hts⟩ (c_X10_takesNumber l D T b y (comp3 (y 7) L (C, y 2, g)) 1 9 L hL hL2 h3 _) (cwV 2 hts gX10_readComplaint_X10_takesNumber rfl rfl rfl (by decide +kernel) ⟨Nat.le_of_ble_eq_true rfl, Nat.le_of_ble_eq_true rfl⟩) (Foc.rfl _ _) hK hP hD hS hA 0 rfl rfl rfl hl.1 rfl (Nat.le_of_ble_eq_true rfl) ⟨Nat.zero_le _, Nat.zero_le _⟩ dX10_readComplaint_65 (fun H locs hP hD hS => ?_)
      have hP : va_P D vwCl (PARW T b y (numS (y 7) L 1 9 (comp3 (y 7) L (C, y 2, g)))) H := hP
      have hD : va_D A (PARW T b y (numS (y 7) L 1 9 (comp3 (y 7) L (C, y 2, g)))) := hD
      have hP : va_P D vwCl (PARW T b y (comp4 (y 7) L (C, y 2, g))) H := hP
      have hD : va_D A (PARW T b y (comp4 (y 7) L (C, y 2, g))) := hD
      refine lv_istore_n (lv' := [(3, .int (numP 1 9 (comp3 (y 7) L (C, y 2, g)))), (2, .int (sortP (comp2 (y 7) L (C, y 2, g)))), (1, .int (numP 0 99 (comp1 (y 7) L (C, y 2, g)))), (0, .ref (b 0))]) hx hb dX10_readComplaint_68 rfl hl (by decide) rfl (fun ls hl => ?_)
      refine lv_aload_n hx hb dX10_readComplaint_69 rfl (lv_at hl 3 rfl) ?_
      have J70 : W p l e ({ frames := 5, cells := 0, slots := 0, locals := 105 } : Room) s m args below meth c H locs 0 0 Q (F0 m 83 ls [.int (bI (kindB (comp4 (y 7) L (C, y 2, g)) 3)), .ref (b 0)]) := by
        refine wrVi (As := [.int (bI (kindB (comp4 (y 7) L (C, y 2, g)) 3))]) (rest := []) ⟨hx, hb, hml, hown, hts⟩ (c_X10_takes l D T b y (comp4 (y 7) L (C, y 2, g)) ((kindB (comp4 (y 7) L (C, y 2, g)) 3)) L hL hL2 h4 _) (cwV 1 hts gX10_readComplaint_X10_takes rfl rfl rfl (by decide +kernel) ⟨Nat.le_of_ble_eq_true rfl, Nat.le_of_ble_eq_true rfl⟩) (Foc.rfl _ _) hK hP hD hS hA 0 rfl rfl rfl hl.1 rfl (Nat.le_of_ble_eq_true rfl) ⟨Nat.zero_le _, Nat.zero_le _⟩ dX10_readComplaint_83 (fun H locs hP hD hS => ?_)
        have hP : va_P D vwCl (PARW T b y (takesP (y 7) L ((kindB (comp4 (y 7) L (C, y 2, g)) 3)) (comp4 (y 7) L (C, y 2, g)))) H := hP
        have hD : va_D A (PARW T b y (takesP (y 7) L ((kindB (comp4 (y 7) L (C, y 2, g)) 3)) (comp4 (y 7) L (C, y 2, g)))) := hD
        have hP : va_P D vwCl (PARW T b y (tkK (y 7) L 3 (comp4 (y 7) L (C, y 2, g)))) H := hP
        have hD : va_D A (PARW T b y (tkK (y 7) L 3 (comp4 (y 7) L (C, y 2, g)))) := hD
        refine lv_if_eq (tgt := 100) hx hb dX10_readComplaint_86 (by decide) (fun c86 => ?_) (fun c86 => ?_)
        ·
          have c86 := bI_0.mp c86
          have c86 : (kindB (comp4 (y 7) L (C, y 2, g)) 3 && !(comp4 (y 7) L (C, y 2, g)).2.2.2.2.2.1) = false := c86
          have hE : (PARW T b y (tkK (y 7) L 3 (comp4 (y 7) L (C, y 2, g))) : va_W) = (PARW T b (va_up y 2 ((compR (y 7) L (C, y 2, g)).2.1)) ((compR (y 7) L (C, y 2, g)).2.2)) := by unfold compR; rw [c86]; rfl
          exact hret _ _ _ _ dX10_readComplaint_100 (by rw [← hE]; exact hP) (by rw [← hE]; exact hD) hS
        ·
          have c86 := bI_n0.mp c86
          have c86 : (kindB (comp4 (y 7) L (C, y 2, g)) 3 && !(comp4 (y 7) L (C, y 2, g)).2.2.2.2.2.1) = true := c86
          have g83 := comp_lt c86
          refine lv_aload_n hx hb dX10_readComplaint_89 rfl (lv_at hl 3 rfl) ?_
          refine va_get (D := D) (ci := 10) (v := .ref (b 2)) (C := RX10) (T := TX10) (N := 19) hx hb hts i10 hown hK hP 0 rfl rfl 1 (by decide) w1 (fun _ h9 => h9) rfl dX10_readComplaint_90 ?_
          refine lv_iload_n hx hb dX10_readComplaint_93 rfl (lv_at hl 2 rfl) ?_
          refine lv_iload_n hx hb dX10_readComplaint_94 rfl (lv_at hl 1 rfl) ?_
          refine lv_iload_n hx hb dX10_readComplaint_95 rfl (lv_at hl 0 rfl) ?_
          refine wrSi (As := [.ref (b 2), .int (numP 0 99 (comp1 (y 7) L (C, y 2, g))), .int (sortP (comp2 (y 7) L (C, y 2, g))), .int (numP 1 9 (comp3 (y 7) L (C, y 2, g)))]) (rest := []) ⟨hx, hb, hml, hown, hts⟩ (c_X10_files l D T (b 2) (y 2) (numP 0 99 (comp1 (y 7) L (C, y 2, g))) (sortP (comp2 (y 7) L (C, y 2, g))) (numP 1 9 (comp3 (y 7) L (C, y 2, g))) C hC (by have := g83; omega) _) (va_cwS 4 hts gX10_readComplaint_X10_files rfl rfl rfl (by decide +kernel) ⟨Nat.le_of_ble_eq_true rfl, Nat.le_of_ble_eq_true rfl⟩) (show Foc (PARW T b y (tkK (y 7) L 3 (comp4 (y 7) L (C, y 2, g)))) _ (PARW T b (va_up y 2 (rFiles (y 2) C (numP 0 99 (comp1 (y 7) L (C, y 2, g))) (sortP (comp2 (y 7) L (C, y 2, g))) (numP 1 9 (comp3 (y 7) L (C, y 2, g))))) (tkK (y 7) L 3 (comp4 (y 7) L (C, y 2, g)))) _ from Foc.one 2 rfl) hK hP hD hS hA rfl hl.1 rfl (Nat.le_of_ble_eq_true rfl) ⟨Nat.zero_le _, Nat.zero_le _⟩ dX10_readComplaint_96 (fun H locs hP hD hS => ?_)
          have hP : va_P D vwCl (PARW T b (va_up y 2 (rFiles (y 2) C (numP 0 99 (comp1 (y 7) L (C, y 2, g))) (sortP (comp2 (y 7) L (C, y 2, g))) (numP 1 9 (comp3 (y 7) L (C, y 2, g))))) (tkK (y 7) L 3 (comp4 (y 7) L (C, y 2, g)))) H := hP
          have hD : va_D A (PARW T b (va_up y 2 (rFiles (y 2) C (numP 0 99 (comp1 (y 7) L (C, y 2, g))) (sortP (comp2 (y 7) L (C, y 2, g))) (numP 1 9 (comp3 (y 7) L (C, y 2, g))))) (tkK (y 7) L 3 (comp4 (y 7) L (C, y 2, g)))) := hD
          refine lv_pop hx hb dX10_readComplaint_99 rfl ?_
          have hE : (PARW T b (va_up y 2 (rFiles (y 2) C (numP 0 99 (comp1 (y 7) L (C, y 2, g))) (sortP (comp2 (y 7) L (C, y 2, g))) (numP 1 9 (comp3 (y 7) L (C, y 2, g))))) (tkK (y 7) L 3 (comp4 (y 7) L (C, y 2, g))) : va_W) = (PARW T b (va_up y 2 ((compR (y 7) L (C, y 2, g)).2.1)) ((compR (y 7) L (C, y 2, g)).2.2)) := by unfold compR; rw [c86]; rfl
          exact hret _ _ _ _ dX10_readComplaint_100 (by rw [← hE]; exact hP) (by rw [← hE]; exact hD) hS
      refine lv_aload_n hx hb dX10_readComplaint_70 rfl (lv_at hl 3 rfl) ?_
      refine va_get (D := D) (ci := 10) (v := .int ((comp4 (y 7) L (C, y 2, g)).2.2.1)) (C := RX10) (T := TX10) (N := 19) hx hb hts i10 hown hK hP 0 rfl rfl 13 (by decide) w2 (fun _ h9 => h9) rfl dX10_readComplaint_71 ?_
      refine lv_iconst (v := 3) hx hb dX10_readComplaint_74 (by decide) ?_
      refine lv_icmp_ne (tgt := 82) hx hb dX10_readComplaint_75 (by decide) (fun c75 => ?_) (fun c75 => ?_)
      ·
        refine lv_iconst (v := 0) hx hb dX10_readComplaint_82 (by decide) ?_
        refine endI (r := bI (kindB (comp4 (y 7) L (C, y 2, g)) 3)) (by simp [bI, kindB, c75]) ?_
        exact J70
      ·
        refine lv_iconst (v := 1) hx hb dX10_readComplaint_78 (by decide) ?_
        refine lv_goto (tgt := 83) hx hb dX10_readComplaint_79 (by decide) ?_
        refine endI (r := bI (kindB (comp4 (y 7) L (C, y 2, g)) 3)) (by simp [bI, kindB, c75]) ?_
        exact J70
    refine lv_iload_n hx hb dX10_readComplaint_36 rfl (lv_at hl 0 rfl) ?_
    refine lv_if_lt (tgt := 56) hx hb dX10_readComplaint_37 (by decide) (fun c37 => ?_) (fun c37 => ?_)
    ·
      refine lv_iconst (v := 0) hx hb dX10_readComplaint_56 (by decide) ?_
      refine endI (r := bI (compB (y 7) L (C, y 2, g))) (by first | ((first | have c37x := Int32.not_lt.mp c37 | have c37x := Int32.not_le.mp c37 | have c37x := Int32.not_lt.mpr c37 | have c37x := Int32.not_le.mpr c37 | have c37x := c37); unfold compB; simp [bI, c37, c37x]; done) | ((first | have c37x := Int32.not_lt.mp c37 | have c37x := Int32.not_le.mp c37 | have c37x := Int32.not_lt.mpr c37 | have c37x := Int32.not_le.mpr c37 | have c37x := c37); unfold compB; rw [hjj]; simp [bI, c37, c37x]; done)) ?_
      exact J36
    ·
      refine lv_aload_n hx hb dX10_readComplaint_40 rfl (lv_at hl 2 rfl) ?_
      refine va_get (D := D) (ci := 10) (v := .ref (b 2)) (C := RX10) (T := TX10) (N := 19) hx hb hts i10 hown hK hP 0 rfl rfl 1 (by decide) w1 (fun _ h9 => h9) rfl dX10_readComplaint_41 ?_
      refine lv_iload_n hx hb dX10_readComplaint_44 rfl (lv_at hl 1 rfl) ?_
      refine lv_iload_n hx hb dX10_readComplaint_45 rfl (lv_at hl 0 rfl) ?_
      refine rdS (As := [.ref (b 2), .int (numP 0 99 (comp1 (y 7) L (C, y 2, g))), .int (sortP (comp2 (y 7) L (C, y 2, g)))]) (rest := [.ref (b 0)]) ⟨hx, hb, hml, hown, hts⟩ (c_X10_waitingBy l D T (b 2) (y 2) (numP 0 99 (comp1 (y 7) L (C, y 2, g))) (sortP (comp2 (y 7) L (C, y 2, g))) C hC hC2) (va_cwS 3 hts gX10_readComplaint_X10_waitingBy rfl rfl rfl (by decide +kernel) ⟨Nat.le_of_ble_eq_true rfl, Nat.le_of_ble_eq_true rfl⟩) hK (hP.sub [2] rfl) rfl hl.1 rfl (Nat.le_of_ble_eq_true rfl) ⟨Nat.zero_le _, Nat.zero_le _⟩ dX10_readComplaint_46 ?_
      refine lv_if_ge (tgt := 56) hx hb dX10_readComplaint_49 (by decide) (fun c49 => ?_) (fun c49 => ?_)
      ·
        obtain ⟨jj, hjj⟩ := oI_some (Int32.not_lt.mpr c49)
        refine lv_iconst (v := 0) hx hb dX10_readComplaint_56 (by decide) ?_
        refine endI (r := bI (compB (y 7) L (C, y 2, g))) (by first | ((first | have c37x := Int32.not_lt.mp c37 | have c37x := Int32.not_le.mp c37 | have c37x := Int32.not_lt.mpr c37 | have c37x := Int32.not_le.mpr c37 | have c37x := c37); (first | have c49x := Int32.not_lt.mp c49 | have c49x := Int32.not_le.mp c49 | have c49x := Int32.not_lt.mpr c49 | have c49x := Int32.not_le.mpr c49 | have c49x := c49); unfold compB; simp [bI, c37, c49, c37x, c49x]; done) | ((first | have c37x := Int32.not_lt.mp c37 | have c37x := Int32.not_le.mp c37 | have c37x := Int32.not_lt.mpr c37 | have c37x := Int32.not_le.mpr c37 | have c37x := c37); (first | have c49x := Int32.not_lt.mp c49 | have c49x := Int32.not_le.mp c49 | have c49x := Int32.not_lt.mpr c49 | have c49x := Int32.not_le.mpr c49 | have c49x := c49); unfold compB; rw [hjj]; simp [bI, c37, c49, c37x, c49x]; done)) ?_
        exact J36
      ·
        have hjj := (oI_lt (fun j h => by have := (findR_lt h).1; omega)).mp (Int32.not_le.mp c49)
        refine lv_iconst (v := 1) hx hb dX10_readComplaint_52 (by decide) ?_
        refine lv_goto (tgt := 57) hx hb dX10_readComplaint_53 (by decide) ?_
        refine endI (r := bI (compB (y 7) L (C, y 2, g))) (by first | ((first | have c37x := Int32.not_lt.mp c37 | have c37x := Int32.not_le.mp c37 | have c37x := Int32.not_lt.mpr c37 | have c37x := Int32.not_le.mpr c37 | have c37x := c37); (first | have c49x := Int32.not_lt.mp c49 | have c49x := Int32.not_le.mp c49 | have c49x := Int32.not_lt.mpr c49 | have c49x := Int32.not_le.mpr c49 | have c49x := c49); unfold compB; simp [bI, c37, c49, c37x, c49x]; done) | ((first | have c37x := Int32.not_lt.mp c37 | have c37x := Int32.not_le.mp c37 | have c37x := Int32.not_lt.mpr c37 | have c37x := Int32.not_le.mpr c37 | have c37x := c37); (first | have c49x := Int32.not_lt.mp c49 | have c49x := Int32.not_le.mp c49 | have c49x := Int32.not_lt.mpr c49 | have c49x := Int32.not_le.mpr c49 | have c49x := c49); unfold compB; rw [hjj]; simp [bI, c37, c49, c37x, c49x]; done)) ?_
        exact J36
  refine lv_aload_n hx hb dX10_readComplaint_1 rfl (lv_at hl 0 rfl) ?_
  refine va_get (D := D) (ci := 10) (v := .ref (b 2)) (C := RX10) (T := TX10) (N := 19) hx hb hts i10 hown hK hP 0 rfl rfl 1 (by decide) w1 (fun _ h9 => h9) rfl dX10_readComplaint_2 ?_
  refine lv_bipush (v := 6) hx hb dX10_readComplaint_5 (by decide) ?_
  refine aldI hx hb hK hP 2 0 rfl rfl (6) rfl (by omega) (by decide) dX10_readComplaint_7 ?_
  refine endI (r := y 2 6) rfl ?_
  refine endI (r := nI C) (hC) ?_
  refine lv_bipush (v := 24) hx hb dX10_readComplaint_8 (by decide) ?_
  refine lv_icmp_ge (tgt := 17) hx hb dX10_readComplaint_10 (by decide) (fun c10 => ?_) (fun c10 => ?_)
  ·
    have c10 : 24 ≤ C := (nI_leI (a := 24) (b := C) (by omega) (by omega)).mp c10
    refine lv_iconst (v := 0) hx hb dX10_readComplaint_17 (by decide) ?_
    refine endI (r := bI (decide (C < 24))) (by simp [bI]; omega) ?_
    exact J1
  ·
    have c10 : ¬ 24 ≤ C := fun h9 => c10 ((nI_leI (a := 24) (b := C) (by omega) (by omega)).mpr h9)
    refine lv_iconst (v := 1) hx hb dX10_readComplaint_13 (by decide) ?_
    refine lv_goto (tgt := 18) hx hb dX10_readComplaint_14 (by decide) ?_
    refine endI (r := bI (decide (C < 24))) (by simp [bI]; omega) ?_
    exact J1
